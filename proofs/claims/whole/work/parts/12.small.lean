noncomputable def p_J6_bitCount_0f7a4 (x0 : Int32) : Option (Int32) :=
  some ((((((((x0 - (((x0.toUInt32 >>> ((nI 1).toUInt32 &&& Int32.toUInt32 31)).toInt32) &&& (1431655765 : Int32))) &&& (858993459 : Int32)) + ((((x0 - (((x0.toUInt32 >>> ((nI 1).toUInt32 &&& Int32.toUInt32 31)).toInt32) &&& (1431655765 : Int32))).toUInt32 >>> ((nI 2).toUInt32 &&& Int32.toUInt32 31)).toInt32) &&& (858993459 : Int32))) + (((((x0 - (((x0.toUInt32 >>> ((nI 1).toUInt32 &&& Int32.toUInt32 31)).toInt32) &&& (1431655765 : Int32))) &&& (858993459 : Int32)) + ((((x0 - (((x0.toUInt32 >>> ((nI 1).toUInt32 &&& Int32.toUInt32 31)).toInt32) &&& (1431655765 : Int32))).toUInt32 >>> ((nI 2).toUInt32 &&& Int32.toUInt32 31)).toInt32) &&& (858993459 : Int32))).toUInt32 >>> ((nI 4).toUInt32 &&& Int32.toUInt32 31)).toInt32)) &&& (252645135 : Int32)) + (((((((x0 - (((x0.toUInt32 >>> ((nI 1).toUInt32 &&& Int32.toUInt32 31)).toInt32) &&& (1431655765 : Int32))) &&& (858993459 : Int32)) + ((((x0 - (((x0.toUInt32 >>> ((nI 1).toUInt32 &&& Int32.toUInt32 31)).toInt32) &&& (1431655765 : Int32))).toUInt32 >>> ((nI 2).toUInt32 &&& Int32.toUInt32 31)).toInt32) &&& (858993459 : Int32))) + (((((x0 - (((x0.toUInt32 >>> ((nI 1).toUInt32 &&& Int32.toUInt32 31)).toInt32) &&& (1431655765 : Int32))) &&& (858993459 : Int32)) + ((((x0 - (((x0.toUInt32 >>> ((nI 1).toUInt32 &&& Int32.toUInt32 31)).toInt32) &&& (1431655765 : Int32))).toUInt32 >>> ((nI 2).toUInt32 &&& Int32.toUInt32 31)).toInt32) &&& (858993459 : Int32))).toUInt32 >>> ((nI 4).toUInt32 &&& Int32.toUInt32 31)).toInt32)) &&& (252645135 : Int32)).toUInt32 >>> ((nI 8).toUInt32 &&& Int32.toUInt32 31)).toInt32)) + ((((((((x0 - (((x0.toUInt32 >>> ((nI 1).toUInt32 &&& Int32.toUInt32 31)).toInt32) &&& (1431655765 : Int32))) &&& (858993459 : Int32)) + ((((x0 - (((x0.toUInt32 >>> ((nI 1).toUInt32 &&& Int32.toUInt32 31)).toInt32) &&& (1431655765 : Int32))).toUInt32 >>> ((nI 2).toUInt32 &&& Int32.toUInt32 31)).toInt32) &&& (858993459 : Int32))) + (((((x0 - (((x0.toUInt32 >>> ((nI 1).toUInt32 &&& Int32.toUInt32 31)).toInt32) &&& (1431655765 : Int32))) &&& (858993459 : Int32)) + ((((x0 - (((x0.toUInt32 >>> ((nI 1).toUInt32 &&& Int32.toUInt32 31)).toInt32) &&& (1431655765 : Int32))).toUInt32 >>> ((nI 2).toUInt32 &&& Int32.toUInt32 31)).toInt32) &&& (858993459 : Int32))).toUInt32 >>> ((nI 4).toUInt32 &&& Int32.toUInt32 31)).toInt32)) &&& (252645135 : Int32)) + (((((((x0 - (((x0.toUInt32 >>> ((nI 1).toUInt32 &&& Int32.toUInt32 31)).toInt32) &&& (1431655765 : Int32))) &&& (858993459 : Int32)) + ((((x0 - (((x0.toUInt32 >>> ((nI 1).toUInt32 &&& Int32.toUInt32 31)).toInt32) &&& (1431655765 : Int32))).toUInt32 >>> ((nI 2).toUInt32 &&& Int32.toUInt32 31)).toInt32) &&& (858993459 : Int32))) + (((((x0 - (((x0.toUInt32 >>> ((nI 1).toUInt32 &&& Int32.toUInt32 31)).toInt32) &&& (1431655765 : Int32))) &&& (858993459 : Int32)) + ((((x0 - (((x0.toUInt32 >>> ((nI 1).toUInt32 &&& Int32.toUInt32 31)).toInt32) &&& (1431655765 : Int32))).toUInt32 >>> ((nI 2).toUInt32 &&& Int32.toUInt32 31)).toInt32) &&& (858993459 : Int32))).toUInt32 >>> ((nI 4).toUInt32 &&& Int32.toUInt32 31)).toInt32)) &&& (252645135 : Int32)).toUInt32 >>> ((nI 8).toUInt32 &&& Int32.toUInt32 31)).toInt32)).toUInt32 >>> ((nI 16).toUInt32 &&& Int32.toUInt32 31)).toInt32)) &&& (nI 63))
set_option maxHeartbeats 4000000 in
set_option maxRecDepth 100000 in
theorem c_J6_bitCount_0f7a4 (l : Launch) (G : Gt)  (x0 : Int32) (r : Int32) (hf : p_J6_bitCount_0f7a4 x0 = some r) (sz : Nat) : Met l yJ6_bitCount_0f7a4 wsJ6_bitCount_0f7a4 ({ frames := 1, cells := 0, slots := 0, locals := 12 }) (Pc0 G sz [.int x0] ([] : va_W)) (Qi0 G (va_A ([] : va_W) sz) r ([] : va_W)) 0 0 (va_A ([] : va_W) sz) := by
  refine metP (Qf := fun A => Qi0 G A r ([] : va_W)) cJ6_bitCount_0f7a4 1 (some .int) (by decide) rfl (Nat.le_of_ble_eq_true rfl) ?_
  intro p e s m below meth c A ls hC hr hlocks hin hE hA hsz hP hD hS hl
  generalize hargs : ([.int x0] : List Value).toArray = args at hC ⊢
  obtain ⟨hx, hb, hml, hown, hts⟩ := id hC
  have hT : va_K G.1 vwCl (tyL G) s := hE.1
  have hRet : ∀ (r9 : Int32) (H : Heap) (locs : List Loc) (ls : Array Slot) (pc : Nat) (hK9 : r9 = r) (hdg : decode cJ6_bitCount_0f7a4 pc = .ok (.ireturn, 1)), va_P G.1 vwCl ([] : va_W) H → va_D A ([] : va_W) → va_S A s.heap H locs → W p l e ({ frames := 1, cells := 0, slots := 0, locals := 12 }) s m args below meth c H locs 0 0 (MQ below (Qi0 G A r ([] : va_W)) args s 0 0 A) (F0 m pc ls [.int r9]) := by
    intro r9 H locs ls pc hK9 hdg hP hD hS
    cases hK9
    exact W.iret hx hb hr (fun t ht hW => ⟨⟨r, (), rfl, rfl, by rw [ht]; exact hP, hD⟩, hS.F ht⟩) hS.2.2 hdg hlocks
  generalize MQ below (Qi0 G A r ([] : va_W)) args s 0 0 A = Q at hRet ⊢
  have hl : lv_has ls 1 [(0, .int x0)] := hl
  have hK0 : r = r := rfl
  obtain ⟨res, hres, hK⟩ : ∃ res, p_J6_bitCount_0f7a4 x0 = some res ∧ res = r := ⟨_, hf, rfl⟩
  clear hf
  have hf := hres
  clear hres
  unfold p_J6_bitCount_0f7a4 at hf
  refine lv_iload_n hx hb dJ6_bitCount_0f7a4_0 rfl (lv_at hl 0 rfl) ?_
  refine lv_iload_n hx hb dJ6_bitCount_0f7a4_1 rfl (lv_at hl 0 rfl) ?_
  refine lv_iconst (v := (nI 1)) hx hb dJ6_bitCount_0f7a4_2 (ic_1) ?_
  refine lv_iushr (v := ((x0.toUInt32 >>> ((nI 1).toUInt32 &&& Int32.toUInt32 31)).toInt32)) hx hb dJ6_bitCount_0f7a4_3 rfl ?_
  refine lv_ldcw (v := (1431655765 : Int32)) hx hb hown (hts (.constant RJ6 265 (1431655765 : Int32)) (by decide +kernel)) dJ6_bitCount_0f7a4_4 ?_
  refine lv_iand hx hb dJ6_bitCount_0f7a4_7 ?_
  refine lv_isub hx hb dJ6_bitCount_0f7a4_8 ?_
  refine lv_istore_n (lv' := [(0, .int (x0 - (((x0.toUInt32 >>> ((nI 1).toUInt32 &&& Int32.toUInt32 31)).toInt32) &&& (1431655765 : Int32))))]) hx hb dJ6_bitCount_0f7a4_9 rfl hl (by decide) rfl (fun ls hl => ?_)
  refine lv_iload_n hx hb dJ6_bitCount_0f7a4_10 rfl (lv_at hl 0 rfl) ?_
  refine lv_ldcw (v := (858993459 : Int32)) hx hb hown (hts (.constant RJ6 266 (858993459 : Int32)) (by decide +kernel)) dJ6_bitCount_0f7a4_11 ?_
  refine lv_iand hx hb dJ6_bitCount_0f7a4_14 ?_
  refine lv_iload_n hx hb dJ6_bitCount_0f7a4_15 rfl (lv_at hl 0 rfl) ?_
  refine lv_iconst (v := (nI 2)) hx hb dJ6_bitCount_0f7a4_16 (ic_2) ?_
  refine lv_iushr (v := (((x0 - (((x0.toUInt32 >>> ((nI 1).toUInt32 &&& Int32.toUInt32 31)).toInt32) &&& (1431655765 : Int32))).toUInt32 >>> ((nI 2).toUInt32 &&& Int32.toUInt32 31)).toInt32)) hx hb dJ6_bitCount_0f7a4_17 rfl ?_
  refine lv_ldcw (v := (858993459 : Int32)) hx hb hown (hts (.constant RJ6 266 (858993459 : Int32)) (by decide +kernel)) dJ6_bitCount_0f7a4_18 ?_
  refine lv_iand hx hb dJ6_bitCount_0f7a4_21 ?_
  refine lv_iadd hx hb dJ6_bitCount_0f7a4_22 ?_
  refine lv_istore_n (lv' := [(0, .int (((x0 - (((x0.toUInt32 >>> ((nI 1).toUInt32 &&& Int32.toUInt32 31)).toInt32) &&& (1431655765 : Int32))) &&& (858993459 : Int32)) + ((((x0 - (((x0.toUInt32 >>> ((nI 1).toUInt32 &&& Int32.toUInt32 31)).toInt32) &&& (1431655765 : Int32))).toUInt32 >>> ((nI 2).toUInt32 &&& Int32.toUInt32 31)).toInt32) &&& (858993459 : Int32))))]) hx hb dJ6_bitCount_0f7a4_23 rfl hl (by decide) rfl (fun ls hl => ?_)
  refine lv_iload_n hx hb dJ6_bitCount_0f7a4_24 rfl (lv_at hl 0 rfl) ?_
  refine lv_iload_n hx hb dJ6_bitCount_0f7a4_25 rfl (lv_at hl 0 rfl) ?_
  refine lv_iconst (v := (nI 4)) hx hb dJ6_bitCount_0f7a4_26 (ic_4) ?_
  refine lv_iushr (v := (((((x0 - (((x0.toUInt32 >>> ((nI 1).toUInt32 &&& Int32.toUInt32 31)).toInt32) &&& (1431655765 : Int32))) &&& (858993459 : Int32)) + ((((x0 - (((x0.toUInt32 >>> ((nI 1).toUInt32 &&& Int32.toUInt32 31)).toInt32) &&& (1431655765 : Int32))).toUInt32 >>> ((nI 2).toUInt32 &&& Int32.toUInt32 31)).toInt32) &&& (858993459 : Int32))).toUInt32 >>> ((nI 4).toUInt32 &&& Int32.toUInt32 31)).toInt32)) hx hb dJ6_bitCount_0f7a4_27 rfl ?_
  refine lv_iadd hx hb dJ6_bitCount_0f7a4_28 ?_
  refine lv_ldcw (v := (252645135 : Int32)) hx hb hown (hts (.constant RJ6 267 (252645135 : Int32)) (by decide +kernel)) dJ6_bitCount_0f7a4_29 ?_
  refine lv_iand hx hb dJ6_bitCount_0f7a4_32 ?_
  refine lv_istore_n (lv' := [(0, .int (((((x0 - (((x0.toUInt32 >>> ((nI 1).toUInt32 &&& Int32.toUInt32 31)).toInt32) &&& (1431655765 : Int32))) &&& (858993459 : Int32)) + ((((x0 - (((x0.toUInt32 >>> ((nI 1).toUInt32 &&& Int32.toUInt32 31)).toInt32) &&& (1431655765 : Int32))).toUInt32 >>> ((nI 2).toUInt32 &&& Int32.toUInt32 31)).toInt32) &&& (858993459 : Int32))) + (((((x0 - (((x0.toUInt32 >>> ((nI 1).toUInt32 &&& Int32.toUInt32 31)).toInt32) &&& (1431655765 : Int32))) &&& (858993459 : Int32)) + ((((x0 - (((x0.toUInt32 >>> ((nI 1).toUInt32 &&& Int32.toUInt32 31)).toInt32) &&& (1431655765 : Int32))).toUInt32 >>> ((nI 2).toUInt32 &&& Int32.toUInt32 31)).toInt32) &&& (858993459 : Int32))).toUInt32 >>> ((nI 4).toUInt32 &&& Int32.toUInt32 31)).toInt32)) &&& (252645135 : Int32)))]) hx hb dJ6_bitCount_0f7a4_33 rfl hl (by decide) rfl (fun ls hl => ?_)
  refine lv_iload_n hx hb dJ6_bitCount_0f7a4_34 rfl (lv_at hl 0 rfl) ?_
  refine lv_iload_n hx hb dJ6_bitCount_0f7a4_35 rfl (lv_at hl 0 rfl) ?_
  refine lv_bipush (v := (nI 8)) hx hb dJ6_bitCount_0f7a4_36 (bi_8) ?_
  refine lv_iushr (v := (((((((x0 - (((x0.toUInt32 >>> ((nI 1).toUInt32 &&& Int32.toUInt32 31)).toInt32) &&& (1431655765 : Int32))) &&& (858993459 : Int32)) + ((((x0 - (((x0.toUInt32 >>> ((nI 1).toUInt32 &&& Int32.toUInt32 31)).toInt32) &&& (1431655765 : Int32))).toUInt32 >>> ((nI 2).toUInt32 &&& Int32.toUInt32 31)).toInt32) &&& (858993459 : Int32))) + (((((x0 - (((x0.toUInt32 >>> ((nI 1).toUInt32 &&& Int32.toUInt32 31)).toInt32) &&& (1431655765 : Int32))) &&& (858993459 : Int32)) + ((((x0 - (((x0.toUInt32 >>> ((nI 1).toUInt32 &&& Int32.toUInt32 31)).toInt32) &&& (1431655765 : Int32))).toUInt32 >>> ((nI 2).toUInt32 &&& Int32.toUInt32 31)).toInt32) &&& (858993459 : Int32))).toUInt32 >>> ((nI 4).toUInt32 &&& Int32.toUInt32 31)).toInt32)) &&& (252645135 : Int32)).toUInt32 >>> ((nI 8).toUInt32 &&& Int32.toUInt32 31)).toInt32)) hx hb dJ6_bitCount_0f7a4_38 rfl ?_
  refine lv_iadd hx hb dJ6_bitCount_0f7a4_39 ?_
  refine lv_istore_n (lv' := [(0, .int ((((((x0 - (((x0.toUInt32 >>> ((nI 1).toUInt32 &&& Int32.toUInt32 31)).toInt32) &&& (1431655765 : Int32))) &&& (858993459 : Int32)) + ((((x0 - (((x0.toUInt32 >>> ((nI 1).toUInt32 &&& Int32.toUInt32 31)).toInt32) &&& (1431655765 : Int32))).toUInt32 >>> ((nI 2).toUInt32 &&& Int32.toUInt32 31)).toInt32) &&& (858993459 : Int32))) + (((((x0 - (((x0.toUInt32 >>> ((nI 1).toUInt32 &&& Int32.toUInt32 31)).toInt32) &&& (1431655765 : Int32))) &&& (858993459 : Int32)) + ((((x0 - (((x0.toUInt32 >>> ((nI 1).toUInt32 &&& Int32.toUInt32 31)).toInt32) &&& (1431655765 : Int32))).toUInt32 >>> ((nI 2).toUInt32 &&& Int32.toUInt32 31)).toInt32) &&& (858993459 : Int32))).toUInt32 >>> ((nI 4).toUInt32 &&& Int32.toUInt32 31)).toInt32)) &&& (252645135 : Int32)) + (((((((x0 - (((x0.toUInt32 >>> ((nI 1).toUInt32 &&& Int32.toUInt32 31)).toInt32) &&& (1431655765 : Int32))) &&& (858993459 : Int32)) + ((((x0 - (((x0.toUInt32 >>> ((nI 1).toUInt32 &&& Int32.toUInt32 31)).toInt32) &&& (1431655765 : Int32))).toUInt32 >>> ((nI 2).toUInt32 &&& Int32.toUInt32 31)).toInt32) &&& (858993459 : Int32))) + (((((x0 - (((x0.toUInt32 >>> ((nI 1).toUInt32 &&& Int32.toUInt32 31)).toInt32) &&& (1431655765 : Int32))) &&& (858993459 : Int32)) + ((((x0 - (((x0.toUInt32 >>> ((nI 1).toUInt32 &&& Int32.toUInt32 31)).toInt32) &&& (1431655765 : Int32))).toUInt32 >>> ((nI 2).toUInt32 &&& Int32.toUInt32 31)).toInt32) &&& (858993459 : Int32))).toUInt32 >>> ((nI 4).toUInt32 &&& Int32.toUInt32 31)).toInt32)) &&& (252645135 : Int32)).toUInt32 >>> ((nI 8).toUInt32 &&& Int32.toUInt32 31)).toInt32)))]) hx hb dJ6_bitCount_0f7a4_40 rfl hl (by decide) rfl (fun ls hl => ?_)
  refine lv_iload_n hx hb dJ6_bitCount_0f7a4_41 rfl (lv_at hl 0 rfl) ?_
  refine lv_iload_n hx hb dJ6_bitCount_0f7a4_42 rfl (lv_at hl 0 rfl) ?_
  refine lv_bipush (v := (nI 16)) hx hb dJ6_bitCount_0f7a4_43 (bi_16) ?_
  refine lv_iushr (v := ((((((((x0 - (((x0.toUInt32 >>> ((nI 1).toUInt32 &&& Int32.toUInt32 31)).toInt32) &&& (1431655765 : Int32))) &&& (858993459 : Int32)) + ((((x0 - (((x0.toUInt32 >>> ((nI 1).toUInt32 &&& Int32.toUInt32 31)).toInt32) &&& (1431655765 : Int32))).toUInt32 >>> ((nI 2).toUInt32 &&& Int32.toUInt32 31)).toInt32) &&& (858993459 : Int32))) + (((((x0 - (((x0.toUInt32 >>> ((nI 1).toUInt32 &&& Int32.toUInt32 31)).toInt32) &&& (1431655765 : Int32))) &&& (858993459 : Int32)) + ((((x0 - (((x0.toUInt32 >>> ((nI 1).toUInt32 &&& Int32.toUInt32 31)).toInt32) &&& (1431655765 : Int32))).toUInt32 >>> ((nI 2).toUInt32 &&& Int32.toUInt32 31)).toInt32) &&& (858993459 : Int32))).toUInt32 >>> ((nI 4).toUInt32 &&& Int32.toUInt32 31)).toInt32)) &&& (252645135 : Int32)) + (((((((x0 - (((x0.toUInt32 >>> ((nI 1).toUInt32 &&& Int32.toUInt32 31)).toInt32) &&& (1431655765 : Int32))) &&& (858993459 : Int32)) + ((((x0 - (((x0.toUInt32 >>> ((nI 1).toUInt32 &&& Int32.toUInt32 31)).toInt32) &&& (1431655765 : Int32))).toUInt32 >>> ((nI 2).toUInt32 &&& Int32.toUInt32 31)).toInt32) &&& (858993459 : Int32))) + (((((x0 - (((x0.toUInt32 >>> ((nI 1).toUInt32 &&& Int32.toUInt32 31)).toInt32) &&& (1431655765 : Int32))) &&& (858993459 : Int32)) + ((((x0 - (((x0.toUInt32 >>> ((nI 1).toUInt32 &&& Int32.toUInt32 31)).toInt32) &&& (1431655765 : Int32))).toUInt32 >>> ((nI 2).toUInt32 &&& Int32.toUInt32 31)).toInt32) &&& (858993459 : Int32))).toUInt32 >>> ((nI 4).toUInt32 &&& Int32.toUInt32 31)).toInt32)) &&& (252645135 : Int32)).toUInt32 >>> ((nI 8).toUInt32 &&& Int32.toUInt32 31)).toInt32)).toUInt32 >>> ((nI 16).toUInt32 &&& Int32.toUInt32 31)).toInt32)) hx hb dJ6_bitCount_0f7a4_45 rfl ?_
  refine lv_iadd hx hb dJ6_bitCount_0f7a4_46 ?_
  refine lv_istore_n (lv' := [(0, .int (((((((x0 - (((x0.toUInt32 >>> ((nI 1).toUInt32 &&& Int32.toUInt32 31)).toInt32) &&& (1431655765 : Int32))) &&& (858993459 : Int32)) + ((((x0 - (((x0.toUInt32 >>> ((nI 1).toUInt32 &&& Int32.toUInt32 31)).toInt32) &&& (1431655765 : Int32))).toUInt32 >>> ((nI 2).toUInt32 &&& Int32.toUInt32 31)).toInt32) &&& (858993459 : Int32))) + (((((x0 - (((x0.toUInt32 >>> ((nI 1).toUInt32 &&& Int32.toUInt32 31)).toInt32) &&& (1431655765 : Int32))) &&& (858993459 : Int32)) + ((((x0 - (((x0.toUInt32 >>> ((nI 1).toUInt32 &&& Int32.toUInt32 31)).toInt32) &&& (1431655765 : Int32))).toUInt32 >>> ((nI 2).toUInt32 &&& Int32.toUInt32 31)).toInt32) &&& (858993459 : Int32))).toUInt32 >>> ((nI 4).toUInt32 &&& Int32.toUInt32 31)).toInt32)) &&& (252645135 : Int32)) + (((((((x0 - (((x0.toUInt32 >>> ((nI 1).toUInt32 &&& Int32.toUInt32 31)).toInt32) &&& (1431655765 : Int32))) &&& (858993459 : Int32)) + ((((x0 - (((x0.toUInt32 >>> ((nI 1).toUInt32 &&& Int32.toUInt32 31)).toInt32) &&& (1431655765 : Int32))).toUInt32 >>> ((nI 2).toUInt32 &&& Int32.toUInt32 31)).toInt32) &&& (858993459 : Int32))) + (((((x0 - (((x0.toUInt32 >>> ((nI 1).toUInt32 &&& Int32.toUInt32 31)).toInt32) &&& (1431655765 : Int32))) &&& (858993459 : Int32)) + ((((x0 - (((x0.toUInt32 >>> ((nI 1).toUInt32 &&& Int32.toUInt32 31)).toInt32) &&& (1431655765 : Int32))).toUInt32 >>> ((nI 2).toUInt32 &&& Int32.toUInt32 31)).toInt32) &&& (858993459 : Int32))).toUInt32 >>> ((nI 4).toUInt32 &&& Int32.toUInt32 31)).toInt32)) &&& (252645135 : Int32)).toUInt32 >>> ((nI 8).toUInt32 &&& Int32.toUInt32 31)).toInt32)) + ((((((((x0 - (((x0.toUInt32 >>> ((nI 1).toUInt32 &&& Int32.toUInt32 31)).toInt32) &&& (1431655765 : Int32))) &&& (858993459 : Int32)) + ((((x0 - (((x0.toUInt32 >>> ((nI 1).toUInt32 &&& Int32.toUInt32 31)).toInt32) &&& (1431655765 : Int32))).toUInt32 >>> ((nI 2).toUInt32 &&& Int32.toUInt32 31)).toInt32) &&& (858993459 : Int32))) + (((((x0 - (((x0.toUInt32 >>> ((nI 1).toUInt32 &&& Int32.toUInt32 31)).toInt32) &&& (1431655765 : Int32))) &&& (858993459 : Int32)) + ((((x0 - (((x0.toUInt32 >>> ((nI 1).toUInt32 &&& Int32.toUInt32 31)).toInt32) &&& (1431655765 : Int32))).toUInt32 >>> ((nI 2).toUInt32 &&& Int32.toUInt32 31)).toInt32) &&& (858993459 : Int32))).toUInt32 >>> ((nI 4).toUInt32 &&& Int32.toUInt32 31)).toInt32)) &&& (252645135 : Int32)) + (((((((x0 - (((x0.toUInt32 >>> ((nI 1).toUInt32 &&& Int32.toUInt32 31)).toInt32) &&& (1431655765 : Int32))) &&& (858993459 : Int32)) + ((((x0 - (((x0.toUInt32 >>> ((nI 1).toUInt32 &&& Int32.toUInt32 31)).toInt32) &&& (1431655765 : Int32))).toUInt32 >>> ((nI 2).toUInt32 &&& Int32.toUInt32 31)).toInt32) &&& (858993459 : Int32))) + (((((x0 - (((x0.toUInt32 >>> ((nI 1).toUInt32 &&& Int32.toUInt32 31)).toInt32) &&& (1431655765 : Int32))) &&& (858993459 : Int32)) + ((((x0 - (((x0.toUInt32 >>> ((nI 1).toUInt32 &&& Int32.toUInt32 31)).toInt32) &&& (1431655765 : Int32))).toUInt32 >>> ((nI 2).toUInt32 &&& Int32.toUInt32 31)).toInt32) &&& (858993459 : Int32))).toUInt32 >>> ((nI 4).toUInt32 &&& Int32.toUInt32 31)).toInt32)) &&& (252645135 : Int32)).toUInt32 >>> ((nI 8).toUInt32 &&& Int32.toUInt32 31)).toInt32)).toUInt32 >>> ((nI 16).toUInt32 &&& Int32.toUInt32 31)).toInt32)))]) hx hb dJ6_bitCount_0f7a4_47 rfl hl (by decide) rfl (fun ls hl => ?_)
  refine lv_iload_n hx hb dJ6_bitCount_0f7a4_48 rfl (lv_at hl 0 rfl) ?_
  refine lv_bipush (v := (nI 63)) hx hb dJ6_bitCount_0f7a4_49 (bi_63) ?_
  refine lv_iand hx hb dJ6_bitCount_0f7a4_51 ?_
  have hK9 := K0_of hf hK
  exact hRet ((((((((x0 - (((x0.toUInt32 >>> ((nI 1).toUInt32 &&& Int32.toUInt32 31)).toInt32) &&& (1431655765 : Int32))) &&& (858993459 : Int32)) + ((((x0 - (((x0.toUInt32 >>> ((nI 1).toUInt32 &&& Int32.toUInt32 31)).toInt32) &&& (1431655765 : Int32))).toUInt32 >>> ((nI 2).toUInt32 &&& Int32.toUInt32 31)).toInt32) &&& (858993459 : Int32))) + (((((x0 - (((x0.toUInt32 >>> ((nI 1).toUInt32 &&& Int32.toUInt32 31)).toInt32) &&& (1431655765 : Int32))) &&& (858993459 : Int32)) + ((((x0 - (((x0.toUInt32 >>> ((nI 1).toUInt32 &&& Int32.toUInt32 31)).toInt32) &&& (1431655765 : Int32))).toUInt32 >>> ((nI 2).toUInt32 &&& Int32.toUInt32 31)).toInt32) &&& (858993459 : Int32))).toUInt32 >>> ((nI 4).toUInt32 &&& Int32.toUInt32 31)).toInt32)) &&& (252645135 : Int32)) + (((((((x0 - (((x0.toUInt32 >>> ((nI 1).toUInt32 &&& Int32.toUInt32 31)).toInt32) &&& (1431655765 : Int32))) &&& (858993459 : Int32)) + ((((x0 - (((x0.toUInt32 >>> ((nI 1).toUInt32 &&& Int32.toUInt32 31)).toInt32) &&& (1431655765 : Int32))).toUInt32 >>> ((nI 2).toUInt32 &&& Int32.toUInt32 31)).toInt32) &&& (858993459 : Int32))) + (((((x0 - (((x0.toUInt32 >>> ((nI 1).toUInt32 &&& Int32.toUInt32 31)).toInt32) &&& (1431655765 : Int32))) &&& (858993459 : Int32)) + ((((x0 - (((x0.toUInt32 >>> ((nI 1).toUInt32 &&& Int32.toUInt32 31)).toInt32) &&& (1431655765 : Int32))).toUInt32 >>> ((nI 2).toUInt32 &&& Int32.toUInt32 31)).toInt32) &&& (858993459 : Int32))).toUInt32 >>> ((nI 4).toUInt32 &&& Int32.toUInt32 31)).toInt32)) &&& (252645135 : Int32)).toUInt32 >>> ((nI 8).toUInt32 &&& Int32.toUInt32 31)).toInt32)) + ((((((((x0 - (((x0.toUInt32 >>> ((nI 1).toUInt32 &&& Int32.toUInt32 31)).toInt32) &&& (1431655765 : Int32))) &&& (858993459 : Int32)) + ((((x0 - (((x0.toUInt32 >>> ((nI 1).toUInt32 &&& Int32.toUInt32 31)).toInt32) &&& (1431655765 : Int32))).toUInt32 >>> ((nI 2).toUInt32 &&& Int32.toUInt32 31)).toInt32) &&& (858993459 : Int32))) + (((((x0 - (((x0.toUInt32 >>> ((nI 1).toUInt32 &&& Int32.toUInt32 31)).toInt32) &&& (1431655765 : Int32))) &&& (858993459 : Int32)) + ((((x0 - (((x0.toUInt32 >>> ((nI 1).toUInt32 &&& Int32.toUInt32 31)).toInt32) &&& (1431655765 : Int32))).toUInt32 >>> ((nI 2).toUInt32 &&& Int32.toUInt32 31)).toInt32) &&& (858993459 : Int32))).toUInt32 >>> ((nI 4).toUInt32 &&& Int32.toUInt32 31)).toInt32)) &&& (252645135 : Int32)) + (((((((x0 - (((x0.toUInt32 >>> ((nI 1).toUInt32 &&& Int32.toUInt32 31)).toInt32) &&& (1431655765 : Int32))) &&& (858993459 : Int32)) + ((((x0 - (((x0.toUInt32 >>> ((nI 1).toUInt32 &&& Int32.toUInt32 31)).toInt32) &&& (1431655765 : Int32))).toUInt32 >>> ((nI 2).toUInt32 &&& Int32.toUInt32 31)).toInt32) &&& (858993459 : Int32))) + (((((x0 - (((x0.toUInt32 >>> ((nI 1).toUInt32 &&& Int32.toUInt32 31)).toInt32) &&& (1431655765 : Int32))) &&& (858993459 : Int32)) + ((((x0 - (((x0.toUInt32 >>> ((nI 1).toUInt32 &&& Int32.toUInt32 31)).toInt32) &&& (1431655765 : Int32))).toUInt32 >>> ((nI 2).toUInt32 &&& Int32.toUInt32 31)).toInt32) &&& (858993459 : Int32))).toUInt32 >>> ((nI 4).toUInt32 &&& Int32.toUInt32 31)).toInt32)) &&& (252645135 : Int32)).toUInt32 >>> ((nI 8).toUInt32 &&& Int32.toUInt32 31)).toInt32)).toUInt32 >>> ((nI 16).toUInt32 &&& Int32.toUInt32 31)).toInt32)) &&& (nI 63)) _ _ _ _ hK9 dJ6_bitCount_0f7a4_52 hP hD hS
noncomputable def p_X1_listCodes_L27 (fflock : Mem) (x1 : Int32) (x2 : Int32) (z : Int32 × Mem) : Option ((Int32 × Mem) ⊕ Mem) :=
  match z with
  | (x3, f_) =>
    if (nI 9) < x3 then
      (some (Sum.inr f_))
    else
      (if x1 = (f_ 0 1) then
         (some (Sum.inl ((x3 + nI 1), f_)))
       else
         (Option.bind (p_X0_canTrade fflock (f_ 0 1) x1 x2 x3) <| fun r52 =>
          if r52 = 0 then
            (some (Sum.inl ((x3 + nI 1), f_)))
          else
            (gd (inb (f_ 0 0) 135) <|
             bnd (upd (f_ 1) (f_ 0 0).toNatClampNeg ((((nI 100) * x1) + ((nI 10) * x2)) + x3)) <| fun g77 =>
             some (Sum.inl ((x3 + nI 1), (mset 0 0 ((f_ 0 0) + (nI 1)) (mrow 1 (g77) f_)))))))
noncomputable def p_X1_listCodes_L14 (fflock : Mem) (x1 : Int32) (z : Int32 × Mem) : Option ((Int32 × Mem) ⊕ Mem) :=
  match z with
  | (x2, f_) =>
    if (fflock 0 0) ≤ x2 then
      (some (Sum.inr f_))
    else
      (Option.bind (lp (p_X1_listCodes_L27 fflock x1 x2) ((nI 1), f_)) <| fun f_27 =>
       some (Sum.inl ((x2 + nI 1), f_27)))
noncomputable def p_X1_listCodes_L7 (fflock : Mem) (z : Int32 × Mem) : Option ((Int32 × Mem) ⊕ Mem) :=
  match z with
  | (x1, f_) =>
    if (nI 5) ≤ x1 then
      (some (Sum.inr f_))
    else
      (Option.bind (lp (p_X1_listCodes_L14 fflock x1) ((nI 0), f_)) <| fun f_14 =>
       some (Sum.inl ((x1 + nI 1), f_14)))
noncomputable def p_X1_listCodes (f : Mem) (fflock : Mem) : Option (Mem) :=
  Option.bind (lp (p_X1_listCodes_L7 fflock) ((nI 0), (mset 0 0 (nI 0) f))) <| fun f_7 =>
  some f_7
set_option maxHeartbeats 4000000 in
set_option maxRecDepth 100000 in
theorem c_X1_listCodes (l : Launch) (G : Gt) (ad : Nat → Nat) (adf : Nat → Nat) (f : Mem) (fflock : Mem) (fz : Mem) (hf : p_X1_listCodes f fflock = some fz) (sz : Nat) : Met l yX1_listCodes wsX1_listCodes ({ frames := 4, cells := 0, slots := 0, locals := 83 }) (Pc0 G sz [.ref (ad 0)] (wX1 G ad (adf 0) f ++ (wX0 G adf fflock))) (Qv0 G (va_A (wX1 G ad (adf 0) f ++ (wX0 G adf fflock)) sz) (wX1 G ad (adf 0) fz ++ (wX0 G adf fflock))) 0 0 (va_A (wX1 G ad (adf 0) f ++ (wX0 G adf fflock)) sz) := by
  refine metP (Qf := fun A => Qv0 G A (wX1 G ad (adf 0) fz ++ (wX0 G adf fflock))) cX1_listCodes 4 (none) (by decide) rfl (Nat.le_of_ble_eq_true rfl) ?_
  intro p e s m below meth c A ls hC hr hlocks hin hE hA hsz hP hD hS hl
  generalize hargs : ([.ref (ad 0)] : List Value).toArray = args at hC ⊢
  obtain ⟨hx, hb, hml, hown, hts⟩ := id hC
  have hT : va_K G.1 vwCl (tyL G) s := hE.1
  have hRet : ∀ (f9 : Mem) (H : Heap) (locs : List Loc) (ls : Array Slot) (pc : Nat) (hK9 : f9 = fz) (hdg : decode cX1_listCodes pc = .ok (.return_, 1)), va_P G.1 vwCl (wX1 G ad (adf 0) f9 ++ (wX0 G adf fflock)) H → va_D A (wX1 G ad (adf 0) f9 ++ (wX0 G adf fflock)) → va_S A s.heap H locs → W p l e ({ frames := 4, cells := 0, slots := 0, locals := 83 }) s m args below meth c H locs 0 0 (MQ below (Qv0 G A (wX1 G ad (adf 0) fz ++ (wX0 G adf fflock))) args s 0 0 A) (F0 m pc ls []) := by
    intro f9 H locs ls pc hK9 hdg hP hD hS
    cases hK9
    exact W.vret hx hb hr (fun t ht hW => ⟨⟨(), rfl, trivial, by rw [ht]; exact hP, hD⟩, hS.F ht⟩) hS.2.2 hdg hlocks
  generalize MQ below (Qv0 G A (wX1 G ad (adf 0) fz ++ (wX0 G adf fflock))) args s 0 0 A = Q at hRet ⊢
  have lk22 := hts (.fieldLink RX1 22 "FeatherShares$RowSearch" "codeCount" "I") (by decide +kernel)
  have inX1 : ∀ w ∈ u_ws RX1 TX1 9, w ∈ wsX1_listCodes := by decide +kernel
  have lk12 := hts (.fieldLink RX1 12 "FeatherShares$RowSearch" "flock" "LFeatherShares$Flock;") (by decide +kernel)
  have lk72 := va_Nw.use (A := args) rfl (hE.2.1 (RX1, 72, "FeatherShares$Flock", "geese", "I", "FeatherShares") (List.mem_of_getElem? (i := 26) rfl))
  have inX0 : ∀ w ∈ u_ws RX0 TX0 13, w ∈ wsX1_listCodes := by decide +kernel
  have lk26 := hts (.fieldLink RX1 26 "FeatherShares$RowSearch" "buyer" "I") (by decide +kernel)
  have lk18 := hts (.fieldLink RX1 18 "FeatherShares$RowSearch" "codes" "[I") (by decide +kernel)
  have hl : lv_has ls 4 [(0, .ref (ad 0))] := hl
  have hK0 : fz = fz := rfl
  obtain ⟨res, hres, hK⟩ : ∃ res, p_X1_listCodes f fflock = some res ∧ res = fz := ⟨_, hf, rfl⟩
  clear hf
  have hf := hres
  clear hres
  unfold p_X1_listCodes at hf
  refine lv_aload_n hx hb dX1_listCodes_0 rfl (lv_at hl 0 rfl) ?_
  refine lv_iconst (v := (nI 0)) hx hb dX1_listCodes_1 (ic_0) ?_
  refine va_put (C := RX1) (T := TX1) (N := 9) (ci := 1) (ty := .int) (v := .int (nI 0)) hx hb hts inX1 tyX1 tyX1_ok nmX1 hown hT hP hD hS 0 rfl rfl 2 (Nat.le_of_ble_eq_true rfl) lk22 (fun _ h => h) rfl (by decide +kernel) rfl rfl (Nat.le_of_ble_eq_true rfl) dX1_listCodes_2 (fun H locs hP hD hS => ?_)
  have hP : va_P G.1 vwCl (wX1 G ad (adf 0) (mset 0 0 (nI 0) f) ++ (wX0 G adf fflock)) H := hP
  have hD : va_D A (wX1 G ad (adf 0) (mset 0 0 (nI 0) f) ++ (wX0 G adf fflock)) := hD
  refine lv_iconst (v := (nI 0)) hx hb dX1_listCodes_5 (ic_0) ?_
  refine lv_istore_n (lv' := [(1, .int (nI 0)), (0, .ref (ad 0))]) hx hb dX1_listCodes_6 rfl hl (by decide) rfl (fun ls hl => ?_)
  obtain ⟨f_7, hlp, hf⟩ := bd_e hf
  refine lp_W1 (p_X1_listCodes_L7 fflock) (fun z => match z with | (x1, f_) => ∀ (H : Heap) (locs : List Loc) (ls : Array Slot), va_P G.1 vwCl (wX1 G ad (adf 0) f_ ++ (wX0 G adf fflock)) H → va_D A (wX1 G ad (adf 0) f_ ++ (wX0 G adf fflock)) → va_S A s.heap H locs → lv_has ls 4 [(0, .ref (ad 0)), (1, .int x1)] → W p l e ({ frames := 4, cells := 0, slots := 0, locals := 83 }) s m args below meth c H locs 0 0 Q (F0 m 7 ls [])) (fun (f_7 : Mem) => ∀ (H : Heap) (locs : List Loc) (ls : Array Slot), va_P G.1 vwCl (wX1 G ad (adf 0) f_7 ++ (wX0 G adf fflock)) H → va_D A (wX1 G ad (adf 0) f_7 ++ (wX0 G adf fflock)) → va_S A s.heap H locs → lv_has ls 4 [] → W p l e ({ frames := 4, cells := 0, slots := 0, locals := 83 }) s m args below meth c H locs 0 0 Q (F0 m 106 ls [])) ?_ hlp ?_ _ _ _ hP hD hS (lv_sub hl [1, 0] rfl)
  · clear hlp hf hK hP hD hS hl
    intro K7 hW7 hX7 
    rintro ⟨x1, f_⟩ res hf hK H locs ls hP hD hS hl
    unfold p_X1_listCodes_L7 at hf
    dsimp only at hf
    refine lv_iload_n hx hb dX1_listCodes_7 rfl (lv_at hl 1 rfl) ?_
    refine lv_iconst (v := (nI 5)) hx hb dX1_listCodes_8 (ic_5) ?_
    refine lv_icmp_ge (tgt := 106) hx hb dX1_listCodes_9 (by decide) (fun hc => ?_) (fun hc => ?_)
    · have hf := if_t hf hc
      have hK9 := K_of hf hK
      have hK9 := hX7 _ hK9
      exact hK9 _ _ _ hP hD hS (lv_sub hl [] rfl)
    · have hf := if_f hf hc
      refine lv_iconst (v := (nI 0)) hx hb dX1_listCodes_12 (ic_0) ?_
      refine lv_istore_n (lv' := [(2, .int (nI 0)), (0, .ref (ad 0)), (1, .int x1)]) hx hb dX1_listCodes_13 rfl hl (by decide) rfl (fun ls hl => ?_)
      obtain ⟨f_14, hlp, hf⟩ := bd_e hf
      refine lp_W1 (p_X1_listCodes_L14 fflock x1) (fun z => match z with | (x2, f_) => ∀ (H : Heap) (locs : List Loc) (ls : Array Slot), va_P G.1 vwCl (wX1 G ad (adf 0) f_ ++ (wX0 G adf fflock)) H → va_D A (wX1 G ad (adf 0) f_ ++ (wX0 G adf fflock)) → va_S A s.heap H locs → lv_has ls 4 [(0, .ref (ad 0)), (1, .int x1), (2, .int x2)] → W p l e ({ frames := 4, cells := 0, slots := 0, locals := 83 }) s m args below meth c H locs 0 0 Q (F0 m 14 ls [])) (fun (f_14 : Mem) => ∀ (H : Heap) (locs : List Loc) (ls : Array Slot), va_P G.1 vwCl (wX1 G ad (adf 0) f_14 ++ (wX0 G adf fflock)) H → va_D A (wX1 G ad (adf 0) f_14 ++ (wX0 G adf fflock)) → va_S A s.heap H locs → lv_has ls 4 [(0, .ref (ad 0)), (1, .int x1)] → W p l e ({ frames := 4, cells := 0, slots := 0, locals := 83 }) s m args below meth c H locs 0 0 Q (F0 m 100 ls [])) ?_ hlp ?_ _ _ _ hP hD hS (lv_sub hl [1, 2, 0] rfl)
      · clear hlp hf hK hP hD hS hl
        intro K14 hW14 hX14 
        rintro ⟨x2, f_⟩ res hf hK H locs ls hP hD hS hl
        unfold p_X1_listCodes_L14 at hf
        dsimp only at hf
        refine lv_iload_n hx hb dX1_listCodes_14 rfl (lv_at hl 2 rfl) ?_
        refine lv_aload_n hx hb dX1_listCodes_15 rfl (lv_at hl 0 rfl) ?_
        refine va_get (C := RX1) (T := TX1) (N := 9) (ci := 1) (v := .ref (adf 0)) hx hb hts inX1 hown hT hP 0 rfl rfl 0 (Nat.le_of_ble_eq_true rfl) lk12 (fun _ h => h) rfl dX1_listCodes_16 ?_
        refine va_getN (C := RX0) (T := TX0) (N := 13) (ci := 0) (v := .int (fflock 0 0)) hx hb hts inX0 hown hT hP 2 rfl rfl 0 (Nat.le_of_ble_eq_true rfl) lk72 (fun _ h => h) rfl dX1_listCodes_19 ?_
        refine lv_icmp_ge (tgt := 100) hx hb dX1_listCodes_22 (by decide) (fun hc => ?_) (fun hc => ?_)
        · have hf := if_t hf hc
          have hK9 := K_of hf hK
          have hK9 := hX14 _ hK9
          exact hK9 _ _ _ hP hD hS (lv_sub hl [0, 1] rfl)
        · have hf := if_f hf hc
          refine lv_iconst (v := (nI 1)) hx hb dX1_listCodes_25 (ic_1) ?_
          refine lv_istore_n (lv' := [(3, .int (nI 1)), (0, .ref (ad 0)), (1, .int x1), (2, .int x2)]) hx hb dX1_listCodes_26 rfl hl (by decide) rfl (fun ls hl => ?_)
          obtain ⟨f_27, hlp, hf⟩ := bd_e hf
          refine lp_W1 (p_X1_listCodes_L27 fflock x1 x2) (fun z => match z with | (x3, f_) => ∀ (H : Heap) (locs : List Loc) (ls : Array Slot), va_P G.1 vwCl (wX1 G ad (adf 0) f_ ++ (wX0 G adf fflock)) H → va_D A (wX1 G ad (adf 0) f_ ++ (wX0 G adf fflock)) → va_S A s.heap H locs → lv_has ls 4 [(0, .ref (ad 0)), (1, .int x1), (2, .int x2), (3, .int x3)] → W p l e ({ frames := 4, cells := 0, slots := 0, locals := 83 }) s m args below meth c H locs 0 0 Q (F0 m 27 ls [])) (fun (f_27 : Mem) => ∀ (H : Heap) (locs : List Loc) (ls : Array Slot), va_P G.1 vwCl (wX1 G ad (adf 0) f_27 ++ (wX0 G adf fflock)) H → va_D A (wX1 G ad (adf 0) f_27 ++ (wX0 G adf fflock)) → va_S A s.heap H locs → lv_has ls 4 [(0, .ref (ad 0)), (1, .int x1), (2, .int x2)] → W p l e ({ frames := 4, cells := 0, slots := 0, locals := 83 }) s m args below meth c H locs 0 0 Q (F0 m 94 ls [])) ?_ hlp ?_ _ _ _ hP hD hS (lv_sub hl [1, 2, 3, 0] rfl)
          · clear hlp hf hK hP hD hS hl
            intro K27 hW27 hX27 
            rintro ⟨x3, f_⟩ res hf hK H locs ls hP hD hS hl
            unfold p_X1_listCodes_L27 at hf
            dsimp only at hf
            refine lv_iload_n hx hb dX1_listCodes_27 rfl (lv_at hl 3 rfl) ?_
            refine lv_bipush (v := (nI 9)) hx hb dX1_listCodes_28 (bi_9) ?_
            refine lv_icmp_gt (tgt := 94) hx hb dX1_listCodes_30 (by decide) (fun hc => ?_) (fun hc => ?_)
            · have hf := if_t hf hc
              have hK9 := K_of hf hK
              have hK9 := hX27 _ hK9
              exact hK9 _ _ _ hP hD hS (lv_sub hl [0, 1, 2] rfl)
            · have hf := if_f hf hc
              refine lv_iload_n hx hb dX1_listCodes_33 rfl (lv_at hl 1 rfl) ?_
              refine lv_aload_n hx hb dX1_listCodes_34 rfl (lv_at hl 0 rfl) ?_
              refine va_get (C := RX1) (T := TX1) (N := 9) (ci := 1) (v := .int (f_ 0 1)) hx hb hts inX1 hown hT hP 0 rfl rfl 3 (Nat.le_of_ble_eq_true rfl) lk26 (fun _ h => h) rfl dX1_listCodes_35 ?_
              refine lv_icmp_eq (tgt := 88) hx hb dX1_listCodes_38 (by decide) (fun hc => ?_) (fun hc => ?_)
              · have hf := if_t hf hc
                refine lv_iinc (v := (x3 + nI 1)) (lv' := [(3, .int (x3 + nI 1)), (0, .ref (ad 0)), (1, .int x1), (2, .int x2)]) hx hb dX1_listCodes_88 hl (k := 3) rfl (ii_x 1 _) (by decide) rfl (fun ls hl => ?_)
                refine lv_goto (tgt := 27) hx hb dX1_listCodes_91 (by decide) ?_
                have hK9 := K_of hf hK
                have hK9 := hW27 _ hK9
                exact hK9 _ _ _ hP hD hS (lv_sub hl [1, 2, 3, 0] rfl)
              · have hf := if_f hf hc
                refine lv_aload_n hx hb dX1_listCodes_41 rfl (lv_at hl 0 rfl) ?_
                refine va_get (C := RX1) (T := TX1) (N := 9) (ci := 1) (v := .ref (adf 0)) hx hb hts inX1 hown hT hP 0 rfl rfl 0 (Nat.le_of_ble_eq_true rfl) lk12 (fun _ h => h) rfl dX1_listCodes_42 ?_
                refine lv_aload_n hx hb dX1_listCodes_45 rfl (lv_at hl 0 rfl) ?_
                refine va_get (C := RX1) (T := TX1) (N := 9) (ci := 1) (v := .int (f_ 0 1)) hx hb hts inX1 hown hT hP 0 rfl rfl 3 (Nat.le_of_ble_eq_true rfl) lk26 (fun _ h => h) rfl dX1_listCodes_46 ?_
                refine lv_iload_n hx hb dX1_listCodes_49 rfl (lv_at hl 1 rfl) ?_
                refine lv_iload_n hx hb dX1_listCodes_50 rfl (lv_at hl 2 rfl) ?_
                refine lv_iload_n hx hb dX1_listCodes_51 rfl (lv_at hl 3 rfl) ?_
                obtain ⟨r52, hc52, hf⟩ := bd_e hf
                refine cl_z_ro (Wd := (wX1 G ad (adf 0) f_ ++ (wX0 G adf fflock))) (Wc := (wX0 G adf fflock)) [2, 3, 4, 5, 6, 7, 8, 9, 10, 11, 12] rfl (va_runVN (As := [.int (f_ 0 1), .int x1, .int x2, .int x3]) (rest := []) hC (c_X0_canTrade l G adf fflock (f_ 0 1) x1 x2 x3 r52 hc52 _) ⟨va_cnB 4 hts gX1_listCodes_X0_canTrade_n75 rfl rfl rfl (hE.2.2 (RX1, 75, yX0_canTrade, "FeatherShares") (List.mem_of_getElem? (i := 43) rfl)) (hts (.initialized RX0) (by decide +kernel)) (by decide +kernel) ⟨Nat.le_of_ble_eq_true rfl, Nat.le_of_ble_eq_true rfl⟩, hts (.instanceMethod yX0_canTrade) (by decide +kernel), hts (.selects RX0 yX0_canTrade yX0_canTrade) (by decide +kernel)⟩ ⟨Pc0_blind, va_recv hT hP (q0 := 2) (ci := 0) rfl rfl, fun U hU hW => Pc0_at (Wd := (wX0 G adf fflock)) hE (hP.subm [2, 3, 4, 5, 6, 7, 8, 9, 10, 11, 12] rfl) (hD.sub [2, 3, 4, 5, 6, 7, 8, 9, 10, 11, 12] (by decide) rfl) hU hW⟩ rfl rfl hl.1 rfl (lv_room (Nat.le_of_ble_eq_true rfl)) dX1_listCodes_52 ⟨Nat.zero_le _, Nat.zero_le _⟩) hS hA hP hD (fun H locs hn52 hP hD hS => ?_)
                refine lv_if_eq (tgt := 88) hx hb dX1_listCodes_55 (by decide) (fun hc => ?_) (fun hc => ?_)
                · have hf := if_t hf hc
                  refine lv_iinc (v := (x3 + nI 1)) (lv' := [(3, .int (x3 + nI 1)), (0, .ref (ad 0)), (1, .int x1), (2, .int x2)]) hx hb dX1_listCodes_88 hl (k := 3) rfl (ii_x 1 _) (by decide) rfl (fun ls hl => ?_)
                  refine lv_goto (tgt := 27) hx hb dX1_listCodes_91 (by decide) ?_
                  have hK9 := K_of hf hK
                  have hK9 := hW27 _ hK9
                  exact hK9 _ _ _ hP hD hS (lv_sub hl [1, 2, 3, 0] rfl)
                · have hf := if_f hf hc
                  refine lv_aload_n hx hb dX1_listCodes_58 rfl (lv_at hl 0 rfl) ?_
                  refine va_get (C := RX1) (T := TX1) (N := 9) (ci := 1) (v := .ref (ad 1)) hx hb hts inX1 hown hT hP 0 rfl rfl 1 (Nat.le_of_ble_eq_true rfl) lk18 (fun _ h => h) rfl dX1_listCodes_59 ?_
                  refine lv_aload_n hx hb dX1_listCodes_62 rfl (lv_at hl 0 rfl) ?_
                  refine va_get (C := RX1) (T := TX1) (N := 9) (ci := 1) (v := .int (f_ 0 0)) hx hb hts inX1 hown hT hP 0 rfl rfl 2 (Nat.le_of_ble_eq_true rfl) lk22 (fun _ h => h) rfl dX1_listCodes_63 ?_
                  refine lv_bipush (v := (nI 100)) hx hb dX1_listCodes_66 (bi_100) ?_
                  refine lv_iload_n hx hb dX1_listCodes_68 rfl (lv_at hl 1 rfl) ?_
                  refine lv_imul hx hb dX1_listCodes_69 ?_
                  refine lv_bipush (v := (nI 10)) hx hb dX1_listCodes_70 (bi_10) ?_
                  refine lv_iload_n hx hb dX1_listCodes_72 rfl (lv_at hl 2 rfl) ?_
                  refine lv_imul hx hb dX1_listCodes_73 ?_
                  refine lv_iadd hx hb dX1_listCodes_74 ?_
                  refine lv_iload_n hx hb dX1_listCodes_75 rfl (lv_at hl 3 rfl) ?_
                  refine lv_iadd hx hb dX1_listCodes_76 ?_
                  obtain ⟨hg, hf⟩ := gd_e hf
                  obtain ⟨g77, eg77, hf⟩ := bnd_e hf
                  refine va_iast (f := f_ 1) hx hb hT hP hD hS 1 0 rfl rfl (inb_e hg) dX1_listCodes_77 (fun H locs hP hD hS => ?_)
                  rw [← eg77] at hP hD
                  have hP : va_P G.1 vwCl (wX1 G ad (adf 0) (mrow 1 (g77) f_) ++ (wX0 G adf fflock)) H := hP
                  have hD : va_D A (wX1 G ad (adf 0) (mrow 1 (g77) f_) ++ (wX0 G adf fflock)) := hD
                  refine lv_aload_n hx hb dX1_listCodes_78 rfl (lv_at hl 0 rfl) ?_
                  refine lv_dup hx hb dX1_listCodes_79 rfl ?_
                  refine va_get (C := RX1) (T := TX1) (N := 9) (ci := 1) (v := .int (f_ 0 0)) hx hb hts inX1 hown hT hP 0 rfl rfl 2 (Nat.le_of_ble_eq_true rfl) lk22 (fun _ h => h) rfl dX1_listCodes_80 ?_
                  refine lv_iconst (v := (nI 1)) hx hb dX1_listCodes_83 (ic_1) ?_
                  refine lv_iadd hx hb dX1_listCodes_84 ?_
                  refine va_put (C := RX1) (T := TX1) (N := 9) (ci := 1) (ty := .int) (v := .int ((f_ 0 0) + (nI 1))) hx hb hts inX1 tyX1 tyX1_ok nmX1 hown hT hP hD hS 0 rfl rfl 2 (Nat.le_of_ble_eq_true rfl) lk22 (fun _ h => h) rfl (by decide +kernel) rfl rfl (Nat.le_of_ble_eq_true rfl) dX1_listCodes_85 (fun H locs hP hD hS => ?_)
                  have hP : va_P G.1 vwCl (wX1 G ad (adf 0) (mset 0 0 ((f_ 0 0) + (nI 1)) (mrow 1 (g77) f_)) ++ (wX0 G adf fflock)) H := hP
                  have hD : va_D A (wX1 G ad (adf 0) (mset 0 0 ((f_ 0 0) + (nI 1)) (mrow 1 (g77) f_)) ++ (wX0 G adf fflock)) := hD
                  refine lv_iinc (v := (x3 + nI 1)) (lv' := [(3, .int (x3 + nI 1)), (0, .ref (ad 0)), (1, .int x1), (2, .int x2)]) hx hb dX1_listCodes_88 hl (k := 3) rfl (ii_x 1 _) (by decide) rfl (fun ls hl => ?_)
                  refine lv_goto (tgt := 27) hx hb dX1_listCodes_91 (by decide) ?_
                  have hK9 := K_of hf hK
                  have hK9 := hW27 _ hK9
                  exact hK9 _ _ _ hP hD hS (lv_sub hl [1, 2, 3, 0] rfl)
          · try dsimp only at hf
            show ∀ (H : Heap) (locs : List Loc) (ls : Array Slot), va_P G.1 vwCl (wX1 G ad (adf 0) f_27 ++ (wX0 G adf fflock)) H → va_D A (wX1 G ad (adf 0) f_27 ++ (wX0 G adf fflock)) → va_S A s.heap H locs → lv_has ls 4 [(0, .ref (ad 0)), (1, .int x1), (2, .int x2)] → W p l e ({ frames := 4, cells := 0, slots := 0, locals := 83 }) s m args below meth c H locs 0 0 Q (F0 m 94 ls [])
            intro H locs ls hP hD hS hl
            refine lv_iinc (v := (x2 + nI 1)) (lv' := [(2, .int (x2 + nI 1)), (0, .ref (ad 0)), (1, .int x1)]) hx hb dX1_listCodes_94 hl (k := 2) rfl (ii_x 1 _) (by decide) rfl (fun ls hl => ?_)
            refine lv_goto (tgt := 14) hx hb dX1_listCodes_97 (by decide) ?_
            have hK9 := K_of hf hK
            have hK9 := hW14 _ hK9
            exact hK9 _ _ _ hP hD hS (lv_sub hl [1, 2, 0] rfl)
      · try dsimp only at hf
        show ∀ (H : Heap) (locs : List Loc) (ls : Array Slot), va_P G.1 vwCl (wX1 G ad (adf 0) f_14 ++ (wX0 G adf fflock)) H → va_D A (wX1 G ad (adf 0) f_14 ++ (wX0 G adf fflock)) → va_S A s.heap H locs → lv_has ls 4 [(0, .ref (ad 0)), (1, .int x1)] → W p l e ({ frames := 4, cells := 0, slots := 0, locals := 83 }) s m args below meth c H locs 0 0 Q (F0 m 100 ls [])
        intro H locs ls hP hD hS hl
        refine lv_iinc (v := (x1 + nI 1)) (lv' := [(1, .int (x1 + nI 1)), (0, .ref (ad 0))]) hx hb dX1_listCodes_100 hl (k := 1) rfl (ii_x 1 _) (by decide) rfl (fun ls hl => ?_)
        refine lv_goto (tgt := 7) hx hb dX1_listCodes_103 (by decide) ?_
        have hK9 := K_of hf hK
        have hK9 := hW7 _ hK9
        exact hK9 _ _ _ hP hD hS (lv_sub hl [1, 0] rfl)
  · try dsimp only at hf
    show ∀ (H : Heap) (locs : List Loc) (ls : Array Slot), va_P G.1 vwCl (wX1 G ad (adf 0) f_7 ++ (wX0 G adf fflock)) H → va_D A (wX1 G ad (adf 0) f_7 ++ (wX0 G adf fflock)) → va_S A s.heap H locs → lv_has ls 4 [] → W p l e ({ frames := 4, cells := 0, slots := 0, locals := 83 }) s m args below meth c H locs 0 0 Q (F0 m 106 ls [])
    intro H locs ls hP hD hS hl
    have hK9 := K0_of hf hK
    exact hRet f_7 _ _ _ _ hK9 dX1_listCodes_106 hP hD hS
noncomputable def p_X1_sellerOf (x0 : Int32) : Option (Int32) :=
  some (x0 / (nI 100))
set_option maxHeartbeats 4000000 in
set_option maxRecDepth 100000 in
theorem c_X1_sellerOf (l : Launch) (G : Gt)  (x0 : Int32) (r : Int32) (hf : p_X1_sellerOf x0 = some r) (sz : Nat) : Met l yX1_sellerOf wsX1_sellerOf ({ frames := 1, cells := 0, slots := 0, locals := 12 }) (Pc0 G sz [.int x0] ([] : va_W)) (Qi0 G (va_A ([] : va_W) sz) r ([] : va_W)) 0 0 (va_A ([] : va_W) sz) := by
  refine metP (Qf := fun A => Qi0 G A r ([] : va_W)) cX1_sellerOf 1 (some .int) (by decide) rfl (Nat.le_of_ble_eq_true rfl) ?_
  intro p e s m below meth c A ls hC hr hlocks hin hE hA hsz hP hD hS hl
  generalize hargs : ([.int x0] : List Value).toArray = args at hC ⊢
  obtain ⟨hx, hb, hml, hown, hts⟩ := id hC
  have hT : va_K G.1 vwCl (tyL G) s := hE.1
  have hRet : ∀ (r9 : Int32) (H : Heap) (locs : List Loc) (ls : Array Slot) (pc : Nat) (hK9 : r9 = r) (hdg : decode cX1_sellerOf pc = .ok (.ireturn, 1)), va_P G.1 vwCl ([] : va_W) H → va_D A ([] : va_W) → va_S A s.heap H locs → W p l e ({ frames := 1, cells := 0, slots := 0, locals := 12 }) s m args below meth c H locs 0 0 (MQ below (Qi0 G A r ([] : va_W)) args s 0 0 A) (F0 m pc ls [.int r9]) := by
    intro r9 H locs ls pc hK9 hdg hP hD hS
    cases hK9
    exact W.iret hx hb hr (fun t ht hW => ⟨⟨r, (), rfl, rfl, by rw [ht]; exact hP, hD⟩, hS.F ht⟩) hS.2.2 hdg hlocks
  generalize MQ below (Qi0 G A r ([] : va_W)) args s 0 0 A = Q at hRet ⊢
  have hl : lv_has ls 1 [(0, .int x0)] := hl
  have hK0 : r = r := rfl
  obtain ⟨res, hres, hK⟩ : ∃ res, p_X1_sellerOf x0 = some res ∧ res = r := ⟨_, hf, rfl⟩
  clear hf
  have hf := hres
  clear hres
  unfold p_X1_sellerOf at hf
  refine lv_iload_n hx hb dX1_sellerOf_0 rfl (lv_at hl 0 rfl) ?_
  refine lv_bipush (v := (nI 100)) hx hb dX1_sellerOf_1 (bi_100) ?_
  refine lv_idiv hx hb dX1_sellerOf_3 (by decide) ?_
  have hK9 := K0_of hf hK
  exact hRet (x0 / (nI 100)) _ _ _ _ hK9 dX1_sellerOf_4 hP hD hS
noncomputable def p_X1_gooseOf (x0 : Int32) : Option (Int32) :=
  some ((x0 / (nI 10)) - (x0 / (nI 10)) / (nI 10) * (nI 10))
set_option maxHeartbeats 4000000 in
set_option maxRecDepth 100000 in
theorem c_X1_gooseOf (l : Launch) (G : Gt)  (x0 : Int32) (r : Int32) (hf : p_X1_gooseOf x0 = some r) (sz : Nat) : Met l yX1_gooseOf wsX1_gooseOf ({ frames := 1, cells := 0, slots := 0, locals := 12 }) (Pc0 G sz [.int x0] ([] : va_W)) (Qi0 G (va_A ([] : va_W) sz) r ([] : va_W)) 0 0 (va_A ([] : va_W) sz) := by
  refine metP (Qf := fun A => Qi0 G A r ([] : va_W)) cX1_gooseOf 1 (some .int) (by decide) rfl (Nat.le_of_ble_eq_true rfl) ?_
  intro p e s m below meth c A ls hC hr hlocks hin hE hA hsz hP hD hS hl
  generalize hargs : ([.int x0] : List Value).toArray = args at hC ⊢
  obtain ⟨hx, hb, hml, hown, hts⟩ := id hC
  have hT : va_K G.1 vwCl (tyL G) s := hE.1
  have hRet : ∀ (r9 : Int32) (H : Heap) (locs : List Loc) (ls : Array Slot) (pc : Nat) (hK9 : r9 = r) (hdg : decode cX1_gooseOf pc = .ok (.ireturn, 1)), va_P G.1 vwCl ([] : va_W) H → va_D A ([] : va_W) → va_S A s.heap H locs → W p l e ({ frames := 1, cells := 0, slots := 0, locals := 12 }) s m args below meth c H locs 0 0 (MQ below (Qi0 G A r ([] : va_W)) args s 0 0 A) (F0 m pc ls [.int r9]) := by
    intro r9 H locs ls pc hK9 hdg hP hD hS
    cases hK9
    exact W.iret hx hb hr (fun t ht hW => ⟨⟨r, (), rfl, rfl, by rw [ht]; exact hP, hD⟩, hS.F ht⟩) hS.2.2 hdg hlocks
  generalize MQ below (Qi0 G A r ([] : va_W)) args s 0 0 A = Q at hRet ⊢
  have hl : lv_has ls 1 [(0, .int x0)] := hl
  have hK0 : r = r := rfl
  obtain ⟨res, hres, hK⟩ : ∃ res, p_X1_gooseOf x0 = some res ∧ res = r := ⟨_, hf, rfl⟩
  clear hf
  have hf := hres
  clear hres
  unfold p_X1_gooseOf at hf
  refine lv_iload_n hx hb dX1_gooseOf_0 rfl (lv_at hl 0 rfl) ?_
  refine lv_bipush (v := (nI 10)) hx hb dX1_gooseOf_1 (bi_10) ?_
  refine lv_idiv hx hb dX1_gooseOf_3 (by decide) ?_
  refine lv_bipush (v := (nI 10)) hx hb dX1_gooseOf_4 (bi_10) ?_
  refine lv_irem hx hb dX1_gooseOf_6 (by decide) ?_
  have hK9 := K0_of hf hK
  exact hRet ((x0 / (nI 10)) - (x0 / (nI 10)) / (nI 10) * (nI 10)) _ _ _ _ hK9 dX1_gooseOf_7 hP hD hS
noncomputable def p_X1_amountOf (x0 : Int32) : Option (Int32) :=
  some (x0 - x0 / (nI 10) * (nI 10))
set_option maxHeartbeats 4000000 in
set_option maxRecDepth 100000 in
theorem c_X1_amountOf (l : Launch) (G : Gt)  (x0 : Int32) (r : Int32) (hf : p_X1_amountOf x0 = some r) (sz : Nat) : Met l yX1_amountOf wsX1_amountOf ({ frames := 1, cells := 0, slots := 0, locals := 12 }) (Pc0 G sz [.int x0] ([] : va_W)) (Qi0 G (va_A ([] : va_W) sz) r ([] : va_W)) 0 0 (va_A ([] : va_W) sz) := by
  refine metP (Qf := fun A => Qi0 G A r ([] : va_W)) cX1_amountOf 1 (some .int) (by decide) rfl (Nat.le_of_ble_eq_true rfl) ?_
  intro p e s m below meth c A ls hC hr hlocks hin hE hA hsz hP hD hS hl
  generalize hargs : ([.int x0] : List Value).toArray = args at hC ⊢
  obtain ⟨hx, hb, hml, hown, hts⟩ := id hC
  have hT : va_K G.1 vwCl (tyL G) s := hE.1
  have hRet : ∀ (r9 : Int32) (H : Heap) (locs : List Loc) (ls : Array Slot) (pc : Nat) (hK9 : r9 = r) (hdg : decode cX1_amountOf pc = .ok (.ireturn, 1)), va_P G.1 vwCl ([] : va_W) H → va_D A ([] : va_W) → va_S A s.heap H locs → W p l e ({ frames := 1, cells := 0, slots := 0, locals := 12 }) s m args below meth c H locs 0 0 (MQ below (Qi0 G A r ([] : va_W)) args s 0 0 A) (F0 m pc ls [.int r9]) := by
    intro r9 H locs ls pc hK9 hdg hP hD hS
    cases hK9
    exact W.iret hx hb hr (fun t ht hW => ⟨⟨r, (), rfl, rfl, by rw [ht]; exact hP, hD⟩, hS.F ht⟩) hS.2.2 hdg hlocks
  generalize MQ below (Qi0 G A r ([] : va_W)) args s 0 0 A = Q at hRet ⊢
  have hl : lv_has ls 1 [(0, .int x0)] := hl
  have hK0 : r = r := rfl
  obtain ⟨res, hres, hK⟩ : ∃ res, p_X1_amountOf x0 = some res ∧ res = r := ⟨_, hf, rfl⟩
  clear hf
  have hf := hres
  clear hres
  unfold p_X1_amountOf at hf
  refine lv_iload_n hx hb dX1_amountOf_0 rfl (lv_at hl 0 rfl) ?_
  refine lv_bipush (v := (nI 10)) hx hb dX1_amountOf_1 (bi_10) ?_
  refine lv_irem hx hb dX1_amountOf_3 (by decide) ?_
  have hK9 := K0_of hf hK
  exact hRet (x0 - x0 / (nI 10) * (nI 10)) _ _ _ _ hK9 dX1_amountOf_4 hP hD hS
noncomputable def p_X1_make (f : Mem) (fflock : Mem) (x1 : Int32) (x2 : Int32) : Option (Mem) :=
  Option.bind (p_X1_sellerOf x1) <| fun r9 =>
  Option.bind (p_X1_gooseOf x1) <| fun r13 =>
  Option.bind (p_X1_amountOf x1) <| fun r18 =>
  Option.bind (p_X0_exchange fflock (f 0 1) r9 r13 (x2 * r18)) <| fun fflock_22 =>
  some fflock_22
set_option maxHeartbeats 4000000 in
set_option maxRecDepth 100000 in
theorem c_X1_make (l : Launch) (G : Gt) (ad : Nat → Nat) (adf : Nat → Nat) (f : Mem) (fflock : Mem) (x1 : Int32) (x2 : Int32) (fflockz : Mem) (hf : p_X1_make f fflock x1 x2 = some fflockz) (sz : Nat) : Met l yX1_make wsX1_make ({ frames := 3, cells := 0, slots := 0, locals := 60 }) (Pc0 G sz [.ref (ad 0), .int x1, .int x2] (wX1 G ad (adf 0) f ++ (wX0 G adf fflock))) (Qv0 G (va_A (wX1 G ad (adf 0) f ++ (wX0 G adf fflock)) sz) (wX1 G ad (adf 0) f ++ (wX0 G adf fflockz))) 0 0 (va_A (wX1 G ad (adf 0) f ++ (wX0 G adf fflock)) sz) := by
  refine metP (Qf := fun A => Qv0 G A (wX1 G ad (adf 0) f ++ (wX0 G adf fflockz))) cX1_make 3 (none) (by decide) rfl (Nat.le_of_ble_eq_true rfl) ?_
  intro p e s m below meth c A ls hC hr hlocks hin hE hA hsz hP hD hS hl
  generalize hargs : ([.ref (ad 0), .int x1, .int x2] : List Value).toArray = args at hC ⊢
  obtain ⟨hx, hb, hml, hown, hts⟩ := id hC
  have hT : va_K G.1 vwCl (tyL G) s := hE.1
  have hRet : ∀ (fflock9 : Mem) (H : Heap) (locs : List Loc) (ls : Array Slot) (pc : Nat) (hK9 : fflock9 = fflockz) (hdg : decode cX1_make pc = .ok (.return_, 1)), va_P G.1 vwCl (wX1 G ad (adf 0) f ++ (wX0 G adf fflock9)) H → va_D A (wX1 G ad (adf 0) f ++ (wX0 G adf fflock9)) → va_S A s.heap H locs → W p l e ({ frames := 3, cells := 0, slots := 0, locals := 60 }) s m args below meth c H locs 0 0 (MQ below (Qv0 G A (wX1 G ad (adf 0) f ++ (wX0 G adf fflockz))) args s 0 0 A) (F0 m pc ls []) := by
    intro fflock9 H locs ls pc hK9 hdg hP hD hS
    cases hK9
    exact W.vret hx hb hr (fun t ht hW => ⟨⟨(), rfl, trivial, by rw [ht]; exact hP, hD⟩, hS.F ht⟩) hS.2.2 hdg hlocks
  generalize MQ below (Qv0 G A (wX1 G ad (adf 0) f ++ (wX0 G adf fflockz))) args s 0 0 A = Q at hRet ⊢
  have lk12 := hts (.fieldLink RX1 12 "FeatherShares$RowSearch" "flock" "LFeatherShares$Flock;") (by decide +kernel)
  have inX1 : ∀ w ∈ u_ws RX1 TX1 9, w ∈ wsX1_make := by decide +kernel
  have lk26 := hts (.fieldLink RX1 26 "FeatherShares$RowSearch" "buyer" "I") (by decide +kernel)
  have hl : lv_has ls 3 [(0, .ref (ad 0)), (1, .int x1), (2, .int x2)] := hl
  have hK0 : fflockz = fflockz := rfl
  obtain ⟨res, hres, hK⟩ : ∃ res, p_X1_make f fflock x1 x2 = some res ∧ res = fflockz := ⟨_, hf, rfl⟩
  clear hf
  have hf := hres
  clear hres
  unfold p_X1_make at hf
  refine lv_aload_n hx hb dX1_make_0 rfl (lv_at hl 0 rfl) ?_
  refine va_get (C := RX1) (T := TX1) (N := 9) (ci := 1) (v := .ref (adf 0)) hx hb hts inX1 hown hT hP 0 rfl rfl 0 (Nat.le_of_ble_eq_true rfl) lk12 (fun _ h => h) rfl dX1_make_1 ?_
  refine lv_aload_n hx hb dX1_make_4 rfl (lv_at hl 0 rfl) ?_
  refine va_get (C := RX1) (T := TX1) (N := 9) (ci := 1) (v := .int (f 0 1)) hx hb hts inX1 hown hT hP 0 rfl rfl 3 (Nat.le_of_ble_eq_true rfl) lk26 (fun _ h => h) rfl dX1_make_5 ?_
  refine lv_iload_n hx hb dX1_make_8 rfl (lv_at hl 1 rfl) ?_
  obtain ⟨r9, hc9, hf⟩ := bd_e hf
  refine cl_i_ro (Wd := (wX1 G ad (adf 0) f ++ (wX0 G adf fflock))) (Wc := ([] : va_W)) [] rfl (va_runS (As := [.int x1]) (rest := [.int (f 0 1), .ref (adf 0)]) hC (c_X1_sellerOf l G x1 r9 hc9 _) (va_cwS 1 hts gX1_make_X1_sellerOf rfl rfl rfl (by decide +kernel) ⟨Nat.le_of_ble_eq_true rfl, Nat.le_of_ble_eq_true rfl⟩) ⟨Pc0_blind, fun U hU hW => Pc0_at (Wd := ([] : va_W)) hE (hP.subm [] rfl) (hD.sub [] (by decide) rfl) hU hW⟩ rfl rfl hl.1 rfl (lv_room (Nat.le_of_ble_eq_true rfl)) dX1_make_9 ⟨Nat.zero_le _, Nat.zero_le _⟩) hS hA hP hD (fun H locs hP hD hS => ?_)
  refine lv_iload_n hx hb dX1_make_12 rfl (lv_at hl 1 rfl) ?_
  obtain ⟨r13, hc13, hf⟩ := bd_e hf
  refine cl_i_ro (Wd := (wX1 G ad (adf 0) f ++ (wX0 G adf fflock))) (Wc := ([] : va_W)) [] rfl (va_runS (As := [.int x1]) (rest := [.int r9, .int (f 0 1), .ref (adf 0)]) hC (c_X1_gooseOf l G x1 r13 hc13 _) (va_cwS 1 hts gX1_make_X1_gooseOf rfl rfl rfl (by decide +kernel) ⟨Nat.le_of_ble_eq_true rfl, Nat.le_of_ble_eq_true rfl⟩) ⟨Pc0_blind, fun U hU hW => Pc0_at (Wd := ([] : va_W)) hE (hP.subm [] rfl) (hD.sub [] (by decide) rfl) hU hW⟩ rfl rfl hl.1 rfl (lv_room (Nat.le_of_ble_eq_true rfl)) dX1_make_13 ⟨Nat.zero_le _, Nat.zero_le _⟩) hS hA hP hD (fun H locs hP hD hS => ?_)
  refine lv_iload_n hx hb dX1_make_16 rfl (lv_at hl 2 rfl) ?_
  refine lv_iload_n hx hb dX1_make_17 rfl (lv_at hl 1 rfl) ?_
  obtain ⟨r18, hc18, hf⟩ := bd_e hf
  refine cl_i_ro (Wd := (wX1 G ad (adf 0) f ++ (wX0 G adf fflock))) (Wc := ([] : va_W)) [] rfl (va_runS (As := [.int x1]) (rest := [.int x2, .int r13, .int r9, .int (f 0 1), .ref (adf 0)]) hC (c_X1_amountOf l G x1 r18 hc18 _) (va_cwS 1 hts gX1_make_X1_amountOf rfl rfl rfl (by decide +kernel) ⟨Nat.le_of_ble_eq_true rfl, Nat.le_of_ble_eq_true rfl⟩) ⟨Pc0_blind, fun U hU hW => Pc0_at (Wd := ([] : va_W)) hE (hP.subm [] rfl) (hD.sub [] (by decide) rfl) hU hW⟩ rfl rfl hl.1 rfl (lv_room (Nat.le_of_ble_eq_true rfl)) dX1_make_18 ⟨Nat.zero_le _, Nat.zero_le _⟩) hS hA hP hD (fun H locs hP hD hS => ?_)
  refine lv_imul hx hb dX1_make_21 ?_
  obtain ⟨fflock_22, hc22, hf⟩ := bd_e hf
  refine cl_v_up (Wd := (wX1 G ad (adf 0) f ++ (wX0 G adf fflock))) (Wc := (wX0 G adf fflock)) (W' := (wX0 G adf fflock_22)) (W2 := (wX1 G ad (adf 0) f ++ (wX0 G adf fflock_22))) (Wr := (wX1 G ad (adf 0) f)) [2, 3, 4, 5, 6, 7, 8, 9, 10, 11, 12] [0, 1] rfl rfl rfl rfl rfl rfl (va_runVN (As := [.int (f 0 1), .int r9, .int r13, .int (x2 * r18)]) (rest := []) hC (c_X0_exchange l G adf fflock (f 0 1) r9 r13 (x2 * r18) fflock_22 hc22 _) ⟨va_cnB 4 hts gX1_make_X0_exchange_n88 rfl rfl rfl (hE.2.2 (RX1, 88, yX0_exchange, "FeatherShares") (List.mem_of_getElem? (i := 44) rfl)) (hts (.initialized RX0) (by decide +kernel)) (by decide +kernel) ⟨Nat.le_of_ble_eq_true rfl, Nat.le_of_ble_eq_true rfl⟩, hts (.instanceMethod yX0_exchange) (by decide +kernel), hts (.selects RX0 yX0_exchange yX0_exchange) (by decide +kernel)⟩ ⟨Pc0_blind, va_recv hT hP (q0 := 2) (ci := 0) rfl rfl, fun U hU hW => Pc0_at (Wd := (wX0 G adf fflock)) hE (hP.subm [2, 3, 4, 5, 6, 7, 8, 9, 10, 11, 12] rfl) (hD.sub [2, 3, 4, 5, 6, 7, 8, 9, 10, 11, 12] (by decide) rfl) hU hW⟩ rfl rfl hl.1 rfl (lv_room (Nat.le_of_ble_eq_true rfl)) dX1_make_22 ⟨Nat.zero_le _, Nat.zero_le _⟩) hS hA hP hD (fun H locs hP hD hS => ?_)
  have hK9 := K0_of hf hK
  exact hRet fflock_22 _ _ _ _ hK9 dX1_make_25 hP hD hS
noncomputable def p_X1_isBetter (f : Mem) (x1 : Int32) (x2 : Int32) (x3 : Int32) : Option (Int32) :=
  if x1 = (f 0 2) then
    (if x2 < (f 0 3) then
       (some (nI 1))
     else
       (if x2 = (f 0 3) then
          (if (f 0 4) ≤ x3 then
             (some (nI 0))
           else
             (some (nI 1)))
        else
          (some (nI 0))))
  else
    (if x1 ≤ (f 0 2) then
       (some (nI 0))
     else
       (some (nI 1)))
set_option maxHeartbeats 4000000 in
set_option maxRecDepth 100000 in
theorem c_X1_isBetter (l : Launch) (G : Gt) (ad : Nat → Nat) (adf : Nat → Nat) (f : Mem) (x1 : Int32) (x2 : Int32) (x3 : Int32) (r : Int32) (hf : p_X1_isBetter f x1 x2 x3 = some r) (sz : Nat) : Met l yX1_isBetter wsX1_isBetter ({ frames := 1, cells := 0, slots := 0, locals := 12 }) (Pc0 G sz [.ref (ad 0), .int x1, .int x2, .int x3] (wX1 G ad (adf 0) f)) (Qz0 G (va_A (wX1 G ad (adf 0) f) sz) r (wX1 G ad (adf 0) f)) 0 0 (va_A (wX1 G ad (adf 0) f) sz) := by
  refine metP (Qf := fun A => Qz0 G A r (wX1 G ad (adf 0) f)) cX1_isBetter 4 (some .boolean) (by decide) rfl (Nat.le_of_ble_eq_true rfl) ?_
  intro p e s m below meth c A ls hC hr hlocks hin hE hA hsz hP hD hS hl
  generalize hargs : ([.ref (ad 0), .int x1, .int x2, .int x3] : List Value).toArray = args at hC ⊢
  obtain ⟨hx, hb, hml, hown, hts⟩ := id hC
  have hT : va_K G.1 vwCl (tyL G) s := hE.1
  have hRet : ∀ (r9 : Int32) (H : Heap) (locs : List Loc) (ls : Array Slot) (pc : Nat) (hK9 : r9 = r) (hn9 : narrow .boolean (.int r9) = .int r9) (hdg : decode cX1_isBetter pc = .ok (.ireturn, 1)), va_P G.1 vwCl (wX1 G ad (adf 0) f) H → va_D A (wX1 G ad (adf 0) f) → va_S A s.heap H locs → W p l e ({ frames := 1, cells := 0, slots := 0, locals := 12 }) s m args below meth c H locs 0 0 (MQ below (Qz0 G A r (wX1 G ad (adf 0) f)) args s 0 0 A) (F0 m pc ls [.int r9]) := by
    intro r9 H locs ls pc hK9 hn9 hdg hP hD hS
    cases hK9
    exact W.zret hx hb hr hn9 (fun t ht hW => ⟨⟨r, (), rfl, ⟨rfl, hn9⟩, by rw [ht]; exact hP, hD⟩, hS.F ht⟩) hS.2.2 hdg hlocks
  generalize MQ below (Qz0 G A r (wX1 G ad (adf 0) f)) args s 0 0 A = Q at hRet ⊢
  have lk29 := hts (.fieldLink RX1 29 "FeatherShares$RowSearch" "bestGeese" "I") (by decide +kernel)
  have inX1 : ∀ w ∈ u_ws RX1 TX1 9, w ∈ wsX1_isBetter := by decide +kernel
  have lk32 := hts (.fieldLink RX1 32 "FeatherShares$RowSearch" "bestMoney" "I") (by decide +kernel)
  have lk35 := hts (.fieldLink RX1 35 "FeatherShares$RowSearch" "bestLength" "I") (by decide +kernel)
  have hl : lv_has ls 4 [(0, .ref (ad 0)), (1, .int x1), (2, .int x2), (3, .int x3)] := hl
  have hK0 : r = r := rfl
  obtain ⟨res, hres, hK⟩ : ∃ res, p_X1_isBetter f x1 x2 x3 = some res ∧ res = r := ⟨_, hf, rfl⟩
  clear hf
  have hf := hres
  clear hres
  unfold p_X1_isBetter at hf
  refine lv_iload_n hx hb dX1_isBetter_0 rfl (lv_at hl 1 rfl) ?_
  refine lv_aload_n hx hb dX1_isBetter_1 rfl (lv_at hl 0 rfl) ?_
  refine va_get (C := RX1) (T := TX1) (N := 9) (ci := 1) (v := .int (f 0 2)) hx hb hts inX1 hown hT hP 0 rfl rfl 4 (Nat.le_of_ble_eq_true rfl) lk29 (fun _ h => h) rfl dX1_isBetter_2 ?_
  refine lv_icmp_eq (tgt := 22) hx hb dX1_isBetter_5 (by decide) (fun hc => ?_) (fun hc => ?_)
  · have hf := if_t hf hc
    refine lv_iload_n hx hb dX1_isBetter_22 rfl (lv_at hl 2 rfl) ?_
    refine lv_aload_n hx hb dX1_isBetter_23 rfl (lv_at hl 0 rfl) ?_
    refine va_get (C := RX1) (T := TX1) (N := 9) (ci := 1) (v := .int (f 0 3)) hx hb hts inX1 hown hT hP 0 rfl rfl 5 (Nat.le_of_ble_eq_true rfl) lk32 (fun _ h => h) rfl dX1_isBetter_24 ?_
    refine lv_icmp_lt (tgt := 46) hx hb dX1_isBetter_27 (by decide) (fun hc => ?_) (fun hc => ?_)
    · have hf := if_t hf hc
      refine lv_iconst (v := (nI 1)) hx hb dX1_isBetter_46 (ic_1) ?_
      refine lv_goto (tgt := 51) hx hb dX1_isBetter_47 (by decide) ?_
      have hK9 := K0_of hf hK
      exact hRet (nI 1) _ _ _ _ hK9 rfl dX1_isBetter_51 hP hD hS
    · have hf := if_f hf hc
      refine lv_iload_n hx hb dX1_isBetter_30 rfl (lv_at hl 2 rfl) ?_
      refine lv_aload_n hx hb dX1_isBetter_31 rfl (lv_at hl 0 rfl) ?_
      refine va_get (C := RX1) (T := TX1) (N := 9) (ci := 1) (v := .int (f 0 3)) hx hb hts inX1 hown hT hP 0 rfl rfl 5 (Nat.le_of_ble_eq_true rfl) lk32 (fun _ h => h) rfl dX1_isBetter_32 ?_
      refine lv_icmp_ne (tgt := 50) hx hb dX1_isBetter_35 (by decide) (fun hc => ?_) (fun hc => ?_)
      · have hf := if_f hf hc
        refine lv_iconst (v := (nI 0)) hx hb dX1_isBetter_50 (ic_0) ?_
        have hK9 := K0_of hf hK
        exact hRet (nI 0) _ _ _ _ hK9 rfl dX1_isBetter_51 hP hD hS
      · have hf := if_t hf hc
        refine lv_iload_n hx hb dX1_isBetter_38 rfl (lv_at hl 3 rfl) ?_
        refine lv_aload_n hx hb dX1_isBetter_39 rfl (lv_at hl 0 rfl) ?_
        refine va_get (C := RX1) (T := TX1) (N := 9) (ci := 1) (v := .int (f 0 4)) hx hb hts inX1 hown hT hP 0 rfl rfl 6 (Nat.le_of_ble_eq_true rfl) lk35 (fun _ h => h) rfl dX1_isBetter_40 ?_
        refine lv_icmp_ge (tgt := 50) hx hb dX1_isBetter_43 (by decide) (fun hc => ?_) (fun hc => ?_)
        · have hf := if_t hf hc
          refine lv_iconst (v := (nI 0)) hx hb dX1_isBetter_50 (ic_0) ?_
          have hK9 := K0_of hf hK
          exact hRet (nI 0) _ _ _ _ hK9 rfl dX1_isBetter_51 hP hD hS
        · have hf := if_f hf hc
          refine lv_iconst (v := (nI 1)) hx hb dX1_isBetter_46 (ic_1) ?_
          refine lv_goto (tgt := 51) hx hb dX1_isBetter_47 (by decide) ?_
          have hK9 := K0_of hf hK
          exact hRet (nI 1) _ _ _ _ hK9 rfl dX1_isBetter_51 hP hD hS
  · have hf := if_f hf hc
    refine lv_iload_n hx hb dX1_isBetter_8 rfl (lv_at hl 1 rfl) ?_
    refine lv_aload_n hx hb dX1_isBetter_9 rfl (lv_at hl 0 rfl) ?_
    refine va_get (C := RX1) (T := TX1) (N := 9) (ci := 1) (v := .int (f 0 2)) hx hb hts inX1 hown hT hP 0 rfl rfl 4 (Nat.le_of_ble_eq_true rfl) lk29 (fun _ h => h) rfl dX1_isBetter_10 ?_
    refine lv_icmp_le (tgt := 20) hx hb dX1_isBetter_13 (by decide) (fun hc => ?_) (fun hc => ?_)
    · have hf := if_t hf hc
      refine lv_iconst (v := (nI 0)) hx hb dX1_isBetter_20 (ic_0) ?_
      have hK9 := K0_of hf hK
      exact hRet (nI 0) _ _ _ _ hK9 rfl dX1_isBetter_21 hP hD hS
    · have hf := if_f hf hc
      refine lv_iconst (v := (nI 1)) hx hb dX1_isBetter_16 (ic_1) ?_
      refine lv_goto (tgt := 21) hx hb dX1_isBetter_17 (by decide) ?_
      have hK9 := K0_of hf hK
      exact hRet (nI 1) _ _ _ _ hK9 rfl dX1_isBetter_21 hP hD hS
noncomputable def p_X1_weigh (f : Mem) (fflock : Mem) (fo1 : Mem) (x2 : Int32) (x3 : Int32) (x4 : Int32) : Option (Mem) :=
  Option.bind (p_X0_geeseWithEggOf fflock (f 0 1)) <| fun r8 =>
  Option.bind (p_J6_bitCount_0f7a4 r8) <| fun r11 =>
  gd (inb (f 0 1) 5) <|
  gd (inb (f 0 1) 5) <|
  Option.bind (p_X1_isBetter f r11 ((fo1 5 (f 0 1).toNatClampNeg) - (fflock 5 (f 0 1).toNatClampNeg)) x2) <| fun r46 =>
  if r46 = 0 then
    (some f)
  else
    (some (mset 0 6 x4 (mset 0 5 x3 (mset 0 4 x2 (mset 0 3 ((fo1 5 (f 0 1).toNatClampNeg) - (fflock 5 (f 0 1).toNatClampNeg)) (mset 0 2 r11 f))))))
set_option maxHeartbeats 4000000 in
set_option maxRecDepth 100000 in
theorem c_X1_weigh (l : Launch) (G : Gt) (ad : Nat → Nat) (adf : Nat → Nat) (ao1 : Nat → Nat) (f : Mem) (fflock : Mem) (fo1 : Mem) (x2 : Int32) (x3 : Int32) (x4 : Int32) (fz : Mem) (hf : p_X1_weigh f fflock fo1 x2 x3 x4 = some fz) (sz : Nat) : Met l yX1_weigh wsX1_weigh ({ frames := 4, cells := 0, slots := 0, locals := 80 }) (Pc0 G sz [.ref (ad 0), .ref (ao1 0), .int x2, .int x3, .int x4] (wX1 G ad (adf 0) f ++ (wX0 G adf fflock ++ (wX0 G ao1 fo1)))) (Qv0 G (va_A (wX1 G ad (adf 0) f ++ (wX0 G adf fflock ++ (wX0 G ao1 fo1))) sz) (wX1 G ad (adf 0) fz ++ (wX0 G adf fflock ++ (wX0 G ao1 fo1)))) 0 0 (va_A (wX1 G ad (adf 0) f ++ (wX0 G adf fflock ++ (wX0 G ao1 fo1))) sz) := by
  refine metP (Qf := fun A => Qv0 G A (wX1 G ad (adf 0) fz ++ (wX0 G adf fflock ++ (wX0 G ao1 fo1)))) cX1_weigh 7 (none) (by decide) rfl (Nat.le_of_ble_eq_true rfl) ?_
  intro p e s m below meth c A ls hC hr hlocks hin hE hA hsz hP hD hS hl
  generalize hargs : ([.ref (ad 0), .ref (ao1 0), .int x2, .int x3, .int x4] : List Value).toArray = args at hC ⊢
  obtain ⟨hx, hb, hml, hown, hts⟩ := id hC
  have hT : va_K G.1 vwCl (tyL G) s := hE.1
  have hRet : ∀ (f9 : Mem) (H : Heap) (locs : List Loc) (ls : Array Slot) (pc : Nat) (hK9 : f9 = fz) (hdg : decode cX1_weigh pc = .ok (.return_, 1)), va_P G.1 vwCl (wX1 G ad (adf 0) f9 ++ (wX0 G adf fflock ++ (wX0 G ao1 fo1))) H → va_D A (wX1 G ad (adf 0) f9 ++ (wX0 G adf fflock ++ (wX0 G ao1 fo1))) → va_S A s.heap H locs → W p l e ({ frames := 4, cells := 0, slots := 0, locals := 80 }) s m args below meth c H locs 0 0 (MQ below (Qv0 G A (wX1 G ad (adf 0) fz ++ (wX0 G adf fflock ++ (wX0 G ao1 fo1)))) args s 0 0 A) (F0 m pc ls []) := by
    intro f9 H locs ls pc hK9 hdg hP hD hS
    cases hK9
    exact W.vret hx hb hr (fun t ht hW => ⟨⟨(), rfl, trivial, by rw [ht]; exact hP, hD⟩, hS.F ht⟩) hS.2.2 hdg hlocks
  generalize MQ below (Qv0 G A (wX1 G ad (adf 0) fz ++ (wX0 G adf fflock ++ (wX0 G ao1 fo1)))) args s 0 0 A = Q at hRet ⊢
  have lk12 := hts (.fieldLink RX1 12 "FeatherShares$RowSearch" "flock" "LFeatherShares$Flock;") (by decide +kernel)
  have inX1 : ∀ w ∈ u_ws RX1 TX1 9, w ∈ wsX1_weigh := by decide +kernel
  have lk26 := hts (.fieldLink RX1 26 "FeatherShares$RowSearch" "buyer" "I") (by decide +kernel)
  have lk92 := va_Nw.use (A := args) rfl (hE.2.1 (RX1, 92, "FeatherShares$Flock", "money", "[I", "FeatherShares") (List.mem_of_getElem? (i := 27) rfl))
  have inX0 : ∀ w ∈ u_ws RX0 TX0 13, w ∈ wsX1_weigh := by decide +kernel
  have lk29 := hts (.fieldLink RX1 29 "FeatherShares$RowSearch" "bestGeese" "I") (by decide +kernel)
  have lk32 := hts (.fieldLink RX1 32 "FeatherShares$RowSearch" "bestMoney" "I") (by decide +kernel)
  have lk35 := hts (.fieldLink RX1 35 "FeatherShares$RowSearch" "bestLength" "I") (by decide +kernel)
  have lk38 := hts (.fieldLink RX1 38 "FeatherShares$RowSearch" "bestFirst" "I") (by decide +kernel)
  have lk41 := hts (.fieldLink RX1 41 "FeatherShares$RowSearch" "bestSecond" "I") (by decide +kernel)
  have hl : lv_has ls 7 [(0, .ref (ad 0)), (1, .ref (ao1 0)), (2, .int x2), (3, .int x3), (4, .int x4)] := hl
  have hK0 : fz = fz := rfl
  obtain ⟨res, hres, hK⟩ : ∃ res, p_X1_weigh f fflock fo1 x2 x3 x4 = some res ∧ res = fz := ⟨_, hf, rfl⟩
  clear hf
  have hf := hres
  clear hres
  unfold p_X1_weigh at hf
  refine lv_aload_n hx hb dX1_weigh_0 rfl (lv_at hl 0 rfl) ?_
  refine va_get (C := RX1) (T := TX1) (N := 9) (ci := 1) (v := .ref (adf 0)) hx hb hts inX1 hown hT hP 0 rfl rfl 0 (Nat.le_of_ble_eq_true rfl) lk12 (fun _ h => h) rfl dX1_weigh_1 ?_
  refine lv_aload_n hx hb dX1_weigh_4 rfl (lv_at hl 0 rfl) ?_
  refine va_get (C := RX1) (T := TX1) (N := 9) (ci := 1) (v := .int (f 0 1)) hx hb hts inX1 hown hT hP 0 rfl rfl 3 (Nat.le_of_ble_eq_true rfl) lk26 (fun _ h => h) rfl dX1_weigh_5 ?_
  obtain ⟨r8, hc8, hf⟩ := bd_e hf
  refine cl_i_ro (Wd := (wX1 G ad (adf 0) f ++ (wX0 G adf fflock ++ (wX0 G ao1 fo1)))) (Wc := (wX0 G adf fflock)) [2, 3, 4, 5, 6, 7, 8, 9, 10, 11, 12] rfl (va_runVN (As := [.int (f 0 1)]) (rest := []) hC (c_X0_geeseWithEggOf l G adf fflock (f 0 1) r8 hc8 _) ⟨va_cnB 1 hts gX1_weigh_X0_geeseWithEggOf_n48 rfl rfl rfl (hE.2.2 (RX1, 48, yX0_geeseWithEggOf, "FeatherShares") (List.mem_of_getElem? (i := 42) rfl)) (hts (.initialized RX0) (by decide +kernel)) (by decide +kernel) ⟨Nat.le_of_ble_eq_true rfl, Nat.le_of_ble_eq_true rfl⟩, hts (.instanceMethod yX0_geeseWithEggOf) (by decide +kernel), hts (.selects RX0 yX0_geeseWithEggOf yX0_geeseWithEggOf) (by decide +kernel)⟩ ⟨Pc0_blind, va_recv hT hP (q0 := 2) (ci := 0) rfl rfl, fun U hU hW => Pc0_at (Wd := (wX0 G adf fflock)) hE (hP.subm [2, 3, 4, 5, 6, 7, 8, 9, 10, 11, 12] rfl) (hD.sub [2, 3, 4, 5, 6, 7, 8, 9, 10, 11, 12] (by decide) rfl) hU hW⟩ rfl rfl hl.1 rfl (lv_room (Nat.le_of_ble_eq_true rfl)) dX1_weigh_8 ⟨Nat.zero_le _, Nat.zero_le _⟩) hS hA hP hD (fun H locs hP hD hS => ?_)
  obtain ⟨r11, hc11, hf⟩ := bd_e hf
  refine cl_i_ro (Wd := (wX1 G ad (adf 0) f ++ (wX0 G adf fflock ++ (wX0 G ao1 fo1)))) (Wc := ([] : va_W)) [] rfl (va_runS (As := [.int r8]) (rest := []) hC (c_J6_bitCount_0f7a4 l G r8 r11 hc11 _) (va_cwS 1 hts gX1_weigh_J6_bitCount_0f7a4 rfl rfl rfl (by decide +kernel) ⟨Nat.le_of_ble_eq_true rfl, Nat.le_of_ble_eq_true rfl⟩) ⟨Pc0_blind, fun U hU hW => Pc0_at (Wd := ([] : va_W)) hE (hP.subm [] rfl) (hD.sub [] (by decide) rfl) hU hW⟩ rfl rfl hl.1 rfl (lv_room (Nat.le_of_ble_eq_true rfl)) dX1_weigh_11 ⟨Nat.zero_le _, Nat.zero_le _⟩) hS hA hP hD (fun H locs hP hD hS => ?_)
  refine lv_istore (lv' := [(5, .int r11), (0, .ref (ad 0)), (1, .ref (ao1 0)), (2, .int x2), (3, .int x3), (4, .int x4)]) hx hb dX1_weigh_14 hl (by decide) rfl (fun ls hl => ?_)
  refine lv_aload_n hx hb dX1_weigh_16 rfl (lv_at hl 2 rfl) ?_
  refine va_getN (C := RX0) (T := TX0) (N := 13) (ci := 0) (v := .ref (ao1 5)) hx hb hts inX0 hown hT hP 13 rfl rfl 7 (Nat.le_of_ble_eq_true rfl) lk92 (fun _ h => h) rfl dX1_weigh_17 ?_
  refine lv_aload_n hx hb dX1_weigh_20 rfl (lv_at hl 1 rfl) ?_
  refine va_get (C := RX1) (T := TX1) (N := 9) (ci := 1) (v := .int (f 0 1)) hx hb hts inX1 hown hT hP 0 rfl rfl 3 (Nat.le_of_ble_eq_true rfl) lk26 (fun _ h => h) rfl dX1_weigh_21 ?_
  obtain ⟨hg, hf⟩ := gd_e hf
  refine va_iald (f := fo1 5) hx hb hT hP 18 0 rfl rfl (inb_e hg) dX1_weigh_24 ?_
  refine lv_aload_n hx hb dX1_weigh_25 rfl (lv_at hl 1 rfl) ?_
  refine va_get (C := RX1) (T := TX1) (N := 9) (ci := 1) (v := .ref (adf 0)) hx hb hts inX1 hown hT hP 0 rfl rfl 0 (Nat.le_of_ble_eq_true rfl) lk12 (fun _ h => h) rfl dX1_weigh_26 ?_
  refine va_getN (C := RX0) (T := TX0) (N := 13) (ci := 0) (v := .ref (adf 5)) hx hb hts inX0 hown hT hP 2 rfl rfl 7 (Nat.le_of_ble_eq_true rfl) lk92 (fun _ h => h) rfl dX1_weigh_29 ?_
  refine lv_aload_n hx hb dX1_weigh_32 rfl (lv_at hl 1 rfl) ?_
  refine va_get (C := RX1) (T := TX1) (N := 9) (ci := 1) (v := .int (f 0 1)) hx hb hts inX1 hown hT hP 0 rfl rfl 3 (Nat.le_of_ble_eq_true rfl) lk26 (fun _ h => h) rfl dX1_weigh_33 ?_
  obtain ⟨hg, hf⟩ := gd_e hf
  refine va_iald (f := fflock 5) hx hb hT hP 7 0 rfl rfl (inb_e hg) dX1_weigh_36 ?_
  refine lv_isub hx hb dX1_weigh_37 ?_
  refine lv_istore (lv' := [(6, .int ((fo1 5 (f 0 1).toNatClampNeg) - (fflock 5 (f 0 1).toNatClampNeg))), (5, .int r11), (0, .ref (ad 0)), (1, .ref (ao1 0)), (2, .int x2), (3, .int x3), (4, .int x4)]) hx hb dX1_weigh_38 hl (by decide) rfl (fun ls hl => ?_)
  refine lv_aload_n hx hb dX1_weigh_40 rfl (lv_at hl 2 rfl) ?_
  refine lv_iload hx hb dX1_weigh_41 (lv_at hl 1 rfl) ?_
  refine lv_iload hx hb dX1_weigh_43 (lv_at hl 0 rfl) ?_
  refine lv_iload_n hx hb dX1_weigh_45 rfl (lv_at hl 4 rfl) ?_
  obtain ⟨r46, hc46, hf⟩ := bd_e hf
  refine cl_z_ro (Wd := (wX1 G ad (adf 0) f ++ (wX0 G adf fflock ++ (wX0 G ao1 fo1)))) (Wc := (wX1 G ad (adf 0) f)) [0, 1] rfl (va_runV (As := [.int r11, .int ((fo1 5 (f 0 1).toNatClampNeg) - (fflock 5 (f 0 1).toNatClampNeg)), .int x2]) (rest := []) hC (c_X1_isBetter l G ad adf f r11 ((fo1 5 (f 0 1).toNatClampNeg) - (fflock 5 (f 0 1).toNatClampNeg)) x2 r46 hc46 _) (cwV 3 hts gX1_weigh_X1_isBetter rfl rfl rfl (by decide +kernel) ⟨Nat.le_of_ble_eq_true rfl, Nat.le_of_ble_eq_true rfl⟩) ⟨Pc0_blind, va_recv hT hP (q0 := 0) (ci := 1) rfl rfl, fun U hU hW => Pc0_at (Wd := (wX1 G ad (adf 0) f)) hE (hP.subm [0, 1] rfl) (hD.sub [0, 1] (by decide) rfl) hU hW⟩ rfl rfl hl.1 rfl (lv_room (Nat.le_of_ble_eq_true rfl)) dX1_weigh_46 ⟨Nat.zero_le _, Nat.zero_le _⟩) hS hA hP hD (fun H locs hn46 hP hD hS => ?_)
  refine lv_if_eq (tgt := 80) hx hb dX1_weigh_49 (by decide) (fun hc => ?_) (fun hc => ?_)
  · have hf := if_t hf hc
    have hK9 := K0_of hf hK
    exact hRet f _ _ _ _ hK9 dX1_weigh_80 hP hD hS
  · have hf := if_f hf hc
    refine lv_aload_n hx hb dX1_weigh_52 rfl (lv_at hl 2 rfl) ?_
    refine lv_iload hx hb dX1_weigh_53 (lv_at hl 1 rfl) ?_
    refine va_put (C := RX1) (T := TX1) (N := 9) (ci := 1) (ty := .int) (v := .int r11) hx hb hts inX1 tyX1 tyX1_ok nmX1 hown hT hP hD hS 0 rfl rfl 4 (Nat.le_of_ble_eq_true rfl) lk29 (fun _ h => h) rfl (by decide +kernel) rfl rfl (Nat.le_of_ble_eq_true rfl) dX1_weigh_55 (fun H locs hP hD hS => ?_)
    have hP : va_P G.1 vwCl (wX1 G ad (adf 0) (mset 0 2 r11 f) ++ (wX0 G adf fflock ++ (wX0 G ao1 fo1))) H := hP
    have hD : va_D A (wX1 G ad (adf 0) (mset 0 2 r11 f) ++ (wX0 G adf fflock ++ (wX0 G ao1 fo1))) := hD
    refine lv_aload_n hx hb dX1_weigh_58 rfl (lv_at hl 2 rfl) ?_
    refine lv_iload hx hb dX1_weigh_59 (lv_at hl 0 rfl) ?_
    refine va_put (C := RX1) (T := TX1) (N := 9) (ci := 1) (ty := .int) (v := .int ((fo1 5 (f 0 1).toNatClampNeg) - (fflock 5 (f 0 1).toNatClampNeg))) hx hb hts inX1 tyX1 tyX1_ok nmX1 hown hT hP hD hS 0 rfl rfl 5 (Nat.le_of_ble_eq_true rfl) lk32 (fun _ h => h) rfl (by decide +kernel) rfl rfl (Nat.le_of_ble_eq_true rfl) dX1_weigh_61 (fun H locs hP hD hS => ?_)
    have hP : va_P G.1 vwCl (wX1 G ad (adf 0) (mset 0 3 ((fo1 5 (f 0 1).toNatClampNeg) - (fflock 5 (f 0 1).toNatClampNeg)) (mset 0 2 r11 f)) ++ (wX0 G adf fflock ++ (wX0 G ao1 fo1))) H := hP
    have hD : va_D A (wX1 G ad (adf 0) (mset 0 3 ((fo1 5 (f 0 1).toNatClampNeg) - (fflock 5 (f 0 1).toNatClampNeg)) (mset 0 2 r11 f)) ++ (wX0 G adf fflock ++ (wX0 G ao1 fo1))) := hD
    refine lv_aload_n hx hb dX1_weigh_64 rfl (lv_at hl 2 rfl) ?_
    refine lv_iload_n hx hb dX1_weigh_65 rfl (lv_at hl 4 rfl) ?_
    refine va_put (C := RX1) (T := TX1) (N := 9) (ci := 1) (ty := .int) (v := .int x2) hx hb hts inX1 tyX1 tyX1_ok nmX1 hown hT hP hD hS 0 rfl rfl 6 (Nat.le_of_ble_eq_true rfl) lk35 (fun _ h => h) rfl (by decide +kernel) rfl rfl (Nat.le_of_ble_eq_true rfl) dX1_weigh_66 (fun H locs hP hD hS => ?_)
    have hP : va_P G.1 vwCl (wX1 G ad (adf 0) (mset 0 4 x2 (mset 0 3 ((fo1 5 (f 0 1).toNatClampNeg) - (fflock 5 (f 0 1).toNatClampNeg)) (mset 0 2 r11 f))) ++ (wX0 G adf fflock ++ (wX0 G ao1 fo1))) H := hP
    have hD : va_D A (wX1 G ad (adf 0) (mset 0 4 x2 (mset 0 3 ((fo1 5 (f 0 1).toNatClampNeg) - (fflock 5 (f 0 1).toNatClampNeg)) (mset 0 2 r11 f))) ++ (wX0 G adf fflock ++ (wX0 G ao1 fo1))) := hD
    refine lv_aload_n hx hb dX1_weigh_69 rfl (lv_at hl 2 rfl) ?_
    refine lv_iload_n hx hb dX1_weigh_70 rfl (lv_at hl 5 rfl) ?_
    refine va_put (C := RX1) (T := TX1) (N := 9) (ci := 1) (ty := .int) (v := .int x3) hx hb hts inX1 tyX1 tyX1_ok nmX1 hown hT hP hD hS 0 rfl rfl 7 (Nat.le_of_ble_eq_true rfl) lk38 (fun _ h => h) rfl (by decide +kernel) rfl rfl (Nat.le_of_ble_eq_true rfl) dX1_weigh_71 (fun H locs hP hD hS => ?_)
    have hP : va_P G.1 vwCl (wX1 G ad (adf 0) (mset 0 5 x3 (mset 0 4 x2 (mset 0 3 ((fo1 5 (f 0 1).toNatClampNeg) - (fflock 5 (f 0 1).toNatClampNeg)) (mset 0 2 r11 f)))) ++ (wX0 G adf fflock ++ (wX0 G ao1 fo1))) H := hP
    have hD : va_D A (wX1 G ad (adf 0) (mset 0 5 x3 (mset 0 4 x2 (mset 0 3 ((fo1 5 (f 0 1).toNatClampNeg) - (fflock 5 (f 0 1).toNatClampNeg)) (mset 0 2 r11 f)))) ++ (wX0 G adf fflock ++ (wX0 G ao1 fo1))) := hD
    refine lv_aload_n hx hb dX1_weigh_74 rfl (lv_at hl 2 rfl) ?_
    refine lv_iload hx hb dX1_weigh_75 (lv_at hl 6 rfl) ?_
    refine va_put (C := RX1) (T := TX1) (N := 9) (ci := 1) (ty := .int) (v := .int x4) hx hb hts inX1 tyX1 tyX1_ok nmX1 hown hT hP hD hS 0 rfl rfl 8 (Nat.le_of_ble_eq_true rfl) lk41 (fun _ h => h) rfl (by decide +kernel) rfl rfl (Nat.le_of_ble_eq_true rfl) dX1_weigh_77 (fun H locs hP hD hS => ?_)
    have hP : va_P G.1 vwCl (wX1 G ad (adf 0) (mset 0 6 x4 (mset 0 5 x3 (mset 0 4 x2 (mset 0 3 ((fo1 5 (f 0 1).toNatClampNeg) - (fflock 5 (f 0 1).toNatClampNeg)) (mset 0 2 r11 f))))) ++ (wX0 G adf fflock ++ (wX0 G ao1 fo1))) H := hP
    have hD : va_D A (wX1 G ad (adf 0) (mset 0 6 x4 (mset 0 5 x3 (mset 0 4 x2 (mset 0 3 ((fo1 5 (f 0 1).toNatClampNeg) - (fflock 5 (f 0 1).toNatClampNeg)) (mset 0 2 r11 f))))) ++ (wX0 G adf fflock ++ (wX0 G ao1 fo1))) := hD
    have hK9 := K0_of hf hK
    exact hRet (mset 0 6 x4 (mset 0 5 x3 (mset 0 4 x2 (mset 0 3 ((fo1 5 (f 0 1).toNatClampNeg) - (fflock 5 (f 0 1).toNatClampNeg)) (mset 0 2 r11 f))))) _ _ _ _ hK9 dX1_weigh_80 hP hD hS
noncomputable def p_X1_weighPairs_L2 (fo1 : Mem) (x2 : Int32) (z : Int32 × Mem × Mem) : Option ((Int32 × Mem × Mem) ⊕ (Mem × Mem)) :=
  match z with
  | (x3, f_, fflock_) =>
    if (f_ 0 0) ≤ x3 then
      (some (Sum.inr (f_, fflock_)))
    else
      (gd (inb x3 135) <|
       Option.bind (p_X1_sellerOf (f_ 1 x3.toNatClampNeg)) <| fun r28 =>
       Option.bind (p_X1_gooseOf (f_ 1 x3.toNatClampNeg)) <| fun r33 =>
       Option.bind (p_X1_amountOf (f_ 1 x3.toNatClampNeg)) <| fun r38 =>
       Option.bind (p_X0_canTrade fflock_ (f_ 0 1) r28 r33 r38) <| fun r41 =>
       if r41 = 0 then
         (some (Sum.inl ((x3 + nI 1), f_, fflock_)))
       else
         (Option.bind (p_X1_make f_ fflock_ (f_ 1 x3.toNatClampNeg) (nI 1)) <| fun fflock_51 =>
          gd (inb x2 135) <|
          Option.bind (p_X1_weigh f_ fflock_51 fo1 (nI 2) (f_ 1 x2.toNatClampNeg) (f_ 1 x3.toNatClampNeg)) <| fun f_65 =>
          Option.bind (p_X1_make f_65 fflock_51 (f_ 1 x3.toNatClampNeg) (-1 : Int32)) <| fun fflock_72 =>
          some (Sum.inl ((x3 + nI 1), f_65, fflock_72))))
noncomputable def p_X1_weighPairs (f : Mem) (fflock : Mem) (fo1 : Mem) (x2 : Int32) : Option (Mem × Mem) :=
  Option.bind (lp (p_X1_weighPairs_L2 fo1 x2) (x2, f, fflock)) <| fun (f_2, fflock_2) =>
  some (f_2, fflock_2)
set_option maxHeartbeats 4000000 in
set_option maxRecDepth 100000 in
theorem c_X1_weighPairs (l : Launch) (G : Gt) (ad : Nat → Nat) (adf : Nat → Nat) (ao1 : Nat → Nat) (f : Mem) (fflock : Mem) (fo1 : Mem) (x2 : Int32) (fz : Mem) (fflockz : Mem) (hf : p_X1_weighPairs f fflock fo1 x2 = some (fz, fflockz)) (sz : Nat) : Met l yX1_weighPairs wsX1_weighPairs ({ frames := 5, cells := 0, slots := 0, locals := 106 }) (Pc0 G sz [.ref (ad 0), .ref (ao1 0), .int x2] (wX1 G ad (adf 0) f ++ (wX0 G adf fflock ++ (wX0 G ao1 fo1)))) (Qv0 G (va_A (wX1 G ad (adf 0) f ++ (wX0 G adf fflock ++ (wX0 G ao1 fo1))) sz) (wX1 G ad (adf 0) fz ++ (wX0 G adf fflockz ++ (wX0 G ao1 fo1)))) 0 0 (va_A (wX1 G ad (adf 0) f ++ (wX0 G adf fflock ++ (wX0 G ao1 fo1))) sz) := by
  refine metP (Qf := fun A => Qv0 G A (wX1 G ad (adf 0) fz ++ (wX0 G adf fflockz ++ (wX0 G ao1 fo1)))) cX1_weighPairs 5 (none) (by decide) rfl (Nat.le_of_ble_eq_true rfl) ?_
  intro p e s m below meth c A ls hC hr hlocks hin hE hA hsz hP hD hS hl
  generalize hargs : ([.ref (ad 0), .ref (ao1 0), .int x2] : List Value).toArray = args at hC ⊢
  obtain ⟨hx, hb, hml, hown, hts⟩ := id hC
  have hT : va_K G.1 vwCl (tyL G) s := hE.1
  have hRet : ∀ (f9 : Mem) (fflock9 : Mem) (H : Heap) (locs : List Loc) (ls : Array Slot) (pc : Nat) (hK9 : (f9, fflock9) = (fz, fflockz)) (hdg : decode cX1_weighPairs pc = .ok (.return_, 1)), va_P G.1 vwCl (wX1 G ad (adf 0) f9 ++ (wX0 G adf fflock9 ++ (wX0 G ao1 fo1))) H → va_D A (wX1 G ad (adf 0) f9 ++ (wX0 G adf fflock9 ++ (wX0 G ao1 fo1))) → va_S A s.heap H locs → W p l e ({ frames := 5, cells := 0, slots := 0, locals := 106 }) s m args below meth c H locs 0 0 (MQ below (Qv0 G A (wX1 G ad (adf 0) fz ++ (wX0 G adf fflockz ++ (wX0 G ao1 fo1)))) args s 0 0 A) (F0 m pc ls []) := by
    intro f9 fflock9 H locs ls pc hK9 hdg hP hD hS
    cases hK9
    exact W.vret hx hb hr (fun t ht hW => ⟨⟨(), rfl, trivial, by rw [ht]; exact hP, hD⟩, hS.F ht⟩) hS.2.2 hdg hlocks
  generalize MQ below (Qv0 G A (wX1 G ad (adf 0) fz ++ (wX0 G adf fflockz ++ (wX0 G ao1 fo1)))) args s 0 0 A = Q at hRet ⊢
  have lk22 := hts (.fieldLink RX1 22 "FeatherShares$RowSearch" "codeCount" "I") (by decide +kernel)
  have inX1 : ∀ w ∈ u_ws RX1 TX1 9, w ∈ wsX1_weighPairs := by decide +kernel
  have lk18 := hts (.fieldLink RX1 18 "FeatherShares$RowSearch" "codes" "[I") (by decide +kernel)
  have lk12 := hts (.fieldLink RX1 12 "FeatherShares$RowSearch" "flock" "LFeatherShares$Flock;") (by decide +kernel)
  have lk26 := hts (.fieldLink RX1 26 "FeatherShares$RowSearch" "buyer" "I") (by decide +kernel)
  have hl : lv_has ls 5 [(0, .ref (ad 0)), (1, .ref (ao1 0)), (2, .int x2)] := hl
  have hK0 : (fz, fflockz) = (fz, fflockz) := rfl
  obtain ⟨res, hres, hK⟩ : ∃ res, p_X1_weighPairs f fflock fo1 x2 = some res ∧ res = (fz, fflockz) := ⟨_, hf, rfl⟩
  clear hf
  have hf := hres
  clear hres
  unfold p_X1_weighPairs at hf
  refine lv_iload_n hx hb dX1_weighPairs_0 rfl (lv_at hl 2 rfl) ?_
  refine lv_istore_n (lv' := [(3, .int x2), (0, .ref (ad 0)), (1, .ref (ao1 0)), (2, .int x2)]) hx hb dX1_weighPairs_1 rfl hl (by decide) rfl (fun ls hl => ?_)
  obtain ⟨⟨f_2, fflock_2⟩, hlp, hf⟩ := bd_e hf
  refine lp_W1 (p_X1_weighPairs_L2 fo1 x2) (fun z => match z with | (x3, f_, fflock_) => ∀ (H : Heap) (locs : List Loc) (ls : Array Slot), va_P G.1 vwCl (wX1 G ad (adf 0) f_ ++ (wX0 G adf fflock_ ++ (wX0 G ao1 fo1))) H → va_D A (wX1 G ad (adf 0) f_ ++ (wX0 G adf fflock_ ++ (wX0 G ao1 fo1))) → va_S A s.heap H locs → lv_has ls 5 [(0, .ref (ad 0)), (1, .ref (ao1 0)), (2, .int x2), (3, .int x3)] → W p l e ({ frames := 5, cells := 0, slots := 0, locals := 106 }) s m args below meth c H locs 0 0 Q (F0 m 2 ls [])) (fun z => match z with | (f_2, fflock_2) => ∀ (H : Heap) (locs : List Loc) (ls : Array Slot), va_P G.1 vwCl (wX1 G ad (adf 0) f_2 ++ (wX0 G adf fflock_2 ++ (wX0 G ao1 fo1))) H → va_D A (wX1 G ad (adf 0) f_2 ++ (wX0 G adf fflock_2 ++ (wX0 G ao1 fo1))) → va_S A s.heap H locs → lv_has ls 5 [] → W p l e ({ frames := 5, cells := 0, slots := 0, locals := 106 }) s m args below meth c H locs 0 0 Q (F0 m 81 ls [])) ?_ hlp ?_ _ _ _ hP hD hS (lv_sub hl [1, 2, 3, 0] rfl)
  · clear hlp hf hK hP hD hS hl
    intro K2 hW2 hX2 
    rintro ⟨x3, f_, fflock_⟩ res hf hK H locs ls hP hD hS hl
    unfold p_X1_weighPairs_L2 at hf
    dsimp only at hf
    refine lv_iload_n hx hb dX1_weighPairs_2 rfl (lv_at hl 3 rfl) ?_
    refine lv_aload_n hx hb dX1_weighPairs_3 rfl (lv_at hl 0 rfl) ?_
    refine va_get (C := RX1) (T := TX1) (N := 9) (ci := 1) (v := .int (f_ 0 0)) hx hb hts inX1 hown hT hP 0 rfl rfl 2 (Nat.le_of_ble_eq_true rfl) lk22 (fun _ h => h) rfl dX1_weighPairs_4 ?_
    refine lv_icmp_ge (tgt := 81) hx hb dX1_weighPairs_7 (by decide) (fun hc => ?_) (fun hc => ?_)
    · have hf := if_t hf hc
      have hK9 := K_of hf hK
      have hK9 := hX2 _ hK9
      exact hK9 _ _ _ hP hD hS (lv_sub hl [] rfl)
    · have hf := if_f hf hc
      refine lv_aload_n hx hb dX1_weighPairs_10 rfl (lv_at hl 0 rfl) ?_
      refine va_get (C := RX1) (T := TX1) (N := 9) (ci := 1) (v := .ref (ad 1)) hx hb hts inX1 hown hT hP 0 rfl rfl 1 (Nat.le_of_ble_eq_true rfl) lk18 (fun _ h => h) rfl dX1_weighPairs_11 ?_
      refine lv_iload_n hx hb dX1_weighPairs_14 rfl (lv_at hl 3 rfl) ?_
      obtain ⟨hg, hf⟩ := gd_e hf
      refine va_iald (f := f_ 1) hx hb hT hP 1 0 rfl rfl (inb_e hg) dX1_weighPairs_15 ?_
      refine lv_istore (lv' := [(4, .int (f_ 1 x3.toNatClampNeg)), (0, .ref (ad 0)), (1, .ref (ao1 0)), (2, .int x2), (3, .int x3)]) hx hb dX1_weighPairs_16 hl (by decide) rfl (fun ls hl => ?_)
      refine lv_aload_n hx hb dX1_weighPairs_18 rfl (lv_at hl 1 rfl) ?_
      refine va_get (C := RX1) (T := TX1) (N := 9) (ci := 1) (v := .ref (adf 0)) hx hb hts inX1 hown hT hP 0 rfl rfl 0 (Nat.le_of_ble_eq_true rfl) lk12 (fun _ h => h) rfl dX1_weighPairs_19 ?_
      refine lv_aload_n hx hb dX1_weighPairs_22 rfl (lv_at hl 1 rfl) ?_
      refine va_get (C := RX1) (T := TX1) (N := 9) (ci := 1) (v := .int (f_ 0 1)) hx hb hts inX1 hown hT hP 0 rfl rfl 3 (Nat.le_of_ble_eq_true rfl) lk26 (fun _ h => h) rfl dX1_weighPairs_23 ?_
      refine lv_iload hx hb dX1_weighPairs_26 (lv_at hl 0 rfl) ?_
      obtain ⟨r28, hc28, hf⟩ := bd_e hf
      refine cl_i_ro (Wd := (wX1 G ad (adf 0) f_ ++ (wX0 G adf fflock_ ++ (wX0 G ao1 fo1)))) (Wc := ([] : va_W)) [] rfl (va_runS (As := [.int (f_ 1 x3.toNatClampNeg)]) (rest := [.int (f_ 0 1), .ref (adf 0)]) hC (c_X1_sellerOf l G (f_ 1 x3.toNatClampNeg) r28 hc28 _) (va_cwS 1 hts gX1_weighPairs_X1_sellerOf rfl rfl rfl (by decide +kernel) ⟨Nat.le_of_ble_eq_true rfl, Nat.le_of_ble_eq_true rfl⟩) ⟨Pc0_blind, fun U hU hW => Pc0_at (Wd := ([] : va_W)) hE (hP.subm [] rfl) (hD.sub [] (by decide) rfl) hU hW⟩ rfl rfl hl.1 rfl (lv_room (Nat.le_of_ble_eq_true rfl)) dX1_weighPairs_28 ⟨Nat.zero_le _, Nat.zero_le _⟩) hS hA hP hD (fun H locs hP hD hS => ?_)
      refine lv_iload hx hb dX1_weighPairs_31 (lv_at hl 0 rfl) ?_
      obtain ⟨r33, hc33, hf⟩ := bd_e hf
      refine cl_i_ro (Wd := (wX1 G ad (adf 0) f_ ++ (wX0 G adf fflock_ ++ (wX0 G ao1 fo1)))) (Wc := ([] : va_W)) [] rfl (va_runS (As := [.int (f_ 1 x3.toNatClampNeg)]) (rest := [.int r28, .int (f_ 0 1), .ref (adf 0)]) hC (c_X1_gooseOf l G (f_ 1 x3.toNatClampNeg) r33 hc33 _) (va_cwS 1 hts gX1_weighPairs_X1_gooseOf rfl rfl rfl (by decide +kernel) ⟨Nat.le_of_ble_eq_true rfl, Nat.le_of_ble_eq_true rfl⟩) ⟨Pc0_blind, fun U hU hW => Pc0_at (Wd := ([] : va_W)) hE (hP.subm [] rfl) (hD.sub [] (by decide) rfl) hU hW⟩ rfl rfl hl.1 rfl (lv_room (Nat.le_of_ble_eq_true rfl)) dX1_weighPairs_33 ⟨Nat.zero_le _, Nat.zero_le _⟩) hS hA hP hD (fun H locs hP hD hS => ?_)
      refine lv_iload hx hb dX1_weighPairs_36 (lv_at hl 0 rfl) ?_
      obtain ⟨r38, hc38, hf⟩ := bd_e hf
      refine cl_i_ro (Wd := (wX1 G ad (adf 0) f_ ++ (wX0 G adf fflock_ ++ (wX0 G ao1 fo1)))) (Wc := ([] : va_W)) [] rfl (va_runS (As := [.int (f_ 1 x3.toNatClampNeg)]) (rest := [.int r33, .int r28, .int (f_ 0 1), .ref (adf 0)]) hC (c_X1_amountOf l G (f_ 1 x3.toNatClampNeg) r38 hc38 _) (va_cwS 1 hts gX1_weighPairs_X1_amountOf rfl rfl rfl (by decide +kernel) ⟨Nat.le_of_ble_eq_true rfl, Nat.le_of_ble_eq_true rfl⟩) ⟨Pc0_blind, fun U hU hW => Pc0_at (Wd := ([] : va_W)) hE (hP.subm [] rfl) (hD.sub [] (by decide) rfl) hU hW⟩ rfl rfl hl.1 rfl (lv_room (Nat.le_of_ble_eq_true rfl)) dX1_weighPairs_38 ⟨Nat.zero_le _, Nat.zero_le _⟩) hS hA hP hD (fun H locs hP hD hS => ?_)
      obtain ⟨r41, hc41, hf⟩ := bd_e hf
      refine cl_z_ro (Wd := (wX1 G ad (adf 0) f_ ++ (wX0 G adf fflock_ ++ (wX0 G ao1 fo1)))) (Wc := (wX0 G adf fflock_)) [2, 3, 4, 5, 6, 7, 8, 9, 10, 11, 12] rfl (va_runVN (As := [.int (f_ 0 1), .int r28, .int r33, .int r38]) (rest := []) hC (c_X0_canTrade l G adf fflock_ (f_ 0 1) r28 r33 r38 r41 hc41 _) ⟨va_cnB 4 hts gX1_weighPairs_X0_canTrade_n75 rfl rfl rfl (hE.2.2 (RX1, 75, yX0_canTrade, "FeatherShares") (List.mem_of_getElem? (i := 43) rfl)) (hts (.initialized RX0) (by decide +kernel)) (by decide +kernel) ⟨Nat.le_of_ble_eq_true rfl, Nat.le_of_ble_eq_true rfl⟩, hts (.instanceMethod yX0_canTrade) (by decide +kernel), hts (.selects RX0 yX0_canTrade yX0_canTrade) (by decide +kernel)⟩ ⟨Pc0_blind, va_recv hT hP (q0 := 2) (ci := 0) rfl rfl, fun U hU hW => Pc0_at (Wd := (wX0 G adf fflock_)) hE (hP.subm [2, 3, 4, 5, 6, 7, 8, 9, 10, 11, 12] rfl) (hD.sub [2, 3, 4, 5, 6, 7, 8, 9, 10, 11, 12] (by decide) rfl) hU hW⟩ rfl rfl hl.1 rfl (lv_room (Nat.le_of_ble_eq_true rfl)) dX1_weighPairs_41 ⟨Nat.zero_le _, Nat.zero_le _⟩) hS hA hP hD (fun H locs hn41 hP hD hS => ?_)
      refine lv_if_eq (tgt := 75) hx hb dX1_weighPairs_44 (by decide) (fun hc => ?_) (fun hc => ?_)
      · have hf := if_t hf hc
        refine lv_iinc (v := (x3 + nI 1)) (lv' := [(3, .int (x3 + nI 1)), (4, .int (f_ 1 x3.toNatClampNeg)), (0, .ref (ad 0)), (1, .ref (ao1 0)), (2, .int x2)]) hx hb dX1_weighPairs_75 hl (k := 4) rfl (ii_x 1 _) (by decide) rfl (fun ls hl => ?_)
        refine lv_goto (tgt := 2) hx hb dX1_weighPairs_78 (by decide) ?_
        have hK9 := K_of hf hK
        have hK9 := hW2 _ hK9
        exact hK9 _ _ _ hP hD hS (lv_sub hl [2, 3, 4, 0] rfl)
      · have hf := if_f hf hc
        refine lv_aload_n hx hb dX1_weighPairs_47 rfl (lv_at hl 1 rfl) ?_
        refine lv_iload hx hb dX1_weighPairs_48 (lv_at hl 0 rfl) ?_
        refine lv_iconst (v := (nI 1)) hx hb dX1_weighPairs_50 (ic_1) ?_
        obtain ⟨fflock_51, hc51, hf⟩ := bd_e hf
        refine cl_v_up (Wd := (wX1 G ad (adf 0) f_ ++ (wX0 G adf fflock_ ++ (wX0 G ao1 fo1)))) (Wc := (wX1 G ad (adf 0) f_ ++ (wX0 G adf fflock_))) (W' := (wX1 G ad (adf 0) f_ ++ (wX0 G adf fflock_51))) (W2 := (wX1 G ad (adf 0) f_ ++ (wX0 G adf fflock_51 ++ (wX0 G ao1 fo1)))) (Wr := (wX0 G ao1 fo1)) [0, 1, 2, 3, 4, 5, 6, 7, 8, 9, 10, 11, 12] [13, 14, 15, 16, 17, 18, 19, 20, 21, 22, 23] rfl rfl rfl rfl rfl rfl (va_runV (As := [.int (f_ 1 x3.toNatClampNeg), .int (nI 1)]) (rest := []) hC (c_X1_make l G ad adf f_ fflock_ (f_ 1 x3.toNatClampNeg) (nI 1) fflock_51 hc51 _) (cwV 2 hts gX1_weighPairs_X1_make rfl rfl rfl (by decide +kernel) ⟨Nat.le_of_ble_eq_true rfl, Nat.le_of_ble_eq_true rfl⟩) ⟨Pc0_blind, va_recv hT hP (q0 := 0) (ci := 1) rfl rfl, fun U hU hW => Pc0_at (Wd := (wX1 G ad (adf 0) f_ ++ (wX0 G adf fflock_))) hE (hP.subm [0, 1, 2, 3, 4, 5, 6, 7, 8, 9, 10, 11, 12] rfl) (hD.sub [0, 1, 2, 3, 4, 5, 6, 7, 8, 9, 10, 11, 12] (by decide) rfl) hU hW⟩ rfl rfl hl.1 rfl (lv_room (Nat.le_of_ble_eq_true rfl)) dX1_weighPairs_51 ⟨Nat.zero_le _, Nat.zero_le _⟩) hS hA hP hD (fun H locs hP hD hS => ?_)
        refine lv_aload_n hx hb dX1_weighPairs_54 rfl (lv_at hl 1 rfl) ?_
        refine lv_aload_n hx hb dX1_weighPairs_55 rfl (lv_at hl 2 rfl) ?_
        refine lv_iconst (v := (nI 2)) hx hb dX1_weighPairs_56 (ic_2) ?_
        refine lv_aload_n hx hb dX1_weighPairs_57 rfl (lv_at hl 1 rfl) ?_
        refine va_get (C := RX1) (T := TX1) (N := 9) (ci := 1) (v := .ref (ad 1)) hx hb hts inX1 hown hT hP 0 rfl rfl 1 (Nat.le_of_ble_eq_true rfl) lk18 (fun _ h => h) rfl dX1_weighPairs_58 ?_
        refine lv_iload_n hx hb dX1_weighPairs_61 rfl (lv_at hl 3 rfl) ?_
        obtain ⟨hg, hf⟩ := gd_e hf
        refine va_iald (f := f_ 1) hx hb hT hP 1 0 rfl rfl (inb_e hg) dX1_weighPairs_62 ?_
        refine lv_iload hx hb dX1_weighPairs_63 (lv_at hl 0 rfl) ?_
        obtain ⟨f_65, hc65, hf⟩ := bd_e hf
        refine cl_v_same (Wd := (wX1 G ad (adf 0) f_ ++ (wX0 G adf fflock_51 ++ (wX0 G ao1 fo1)))) (W' := (wX1 G ad (adf 0) f_65 ++ (wX0 G adf fflock_51 ++ (wX0 G ao1 fo1)))) (va_runV (As := [.ref (ao1 0), .int (nI 2), .int (f_ 1 x2.toNatClampNeg), .int (f_ 1 x3.toNatClampNeg)]) (rest := []) hC (c_X1_weigh l G ad adf ao1 f_ fflock_51 fo1 (nI 2) (f_ 1 x2.toNatClampNeg) (f_ 1 x3.toNatClampNeg) f_65 hc65 _) (cwV 4 hts gX1_weighPairs_X1_weigh rfl rfl rfl (by decide +kernel) ⟨Nat.le_of_ble_eq_true rfl, Nat.le_of_ble_eq_true rfl⟩) ⟨Pc0_blind, va_recv hT hP (q0 := 0) (ci := 1) rfl rfl, fun U hU hW => Pc0_at hE hP hD hU hW⟩ rfl rfl hl.1 rfl (lv_room (Nat.le_of_ble_eq_true rfl)) dX1_weighPairs_65 ⟨Nat.zero_le _, Nat.zero_le _⟩) hS hA hD (fun H locs hP hD hS => ?_)
        refine lv_aload_n hx hb dX1_weighPairs_68 rfl (lv_at hl 1 rfl) ?_
        refine lv_iload hx hb dX1_weighPairs_69 (lv_at hl 0 rfl) ?_
        refine lv_iconst (v := (-1 : Int32)) hx hb dX1_weighPairs_71 (ic_m1) ?_
        obtain ⟨fflock_72, hc72, hf⟩ := bd_e hf
        refine cl_v_up (Wd := (wX1 G ad (adf 0) f_65 ++ (wX0 G adf fflock_51 ++ (wX0 G ao1 fo1)))) (Wc := (wX1 G ad (adf 0) f_65 ++ (wX0 G adf fflock_51))) (W' := (wX1 G ad (adf 0) f_65 ++ (wX0 G adf fflock_72))) (W2 := (wX1 G ad (adf 0) f_65 ++ (wX0 G adf fflock_72 ++ (wX0 G ao1 fo1)))) (Wr := (wX0 G ao1 fo1)) [0, 1, 2, 3, 4, 5, 6, 7, 8, 9, 10, 11, 12] [13, 14, 15, 16, 17, 18, 19, 20, 21, 22, 23] rfl rfl rfl rfl rfl rfl (va_runV (As := [.int (f_ 1 x3.toNatClampNeg), .int (-1 : Int32)]) (rest := []) hC (c_X1_make l G ad adf f_65 fflock_51 (f_ 1 x3.toNatClampNeg) (-1 : Int32) fflock_72 hc72 _) (cwV 2 hts gX1_weighPairs_X1_make rfl rfl rfl (by decide +kernel) ⟨Nat.le_of_ble_eq_true rfl, Nat.le_of_ble_eq_true rfl⟩) ⟨Pc0_blind, va_recv hT hP (q0 := 0) (ci := 1) rfl rfl, fun U hU hW => Pc0_at (Wd := (wX1 G ad (adf 0) f_65 ++ (wX0 G adf fflock_51))) hE (hP.subm [0, 1, 2, 3, 4, 5, 6, 7, 8, 9, 10, 11, 12] rfl) (hD.sub [0, 1, 2, 3, 4, 5, 6, 7, 8, 9, 10, 11, 12] (by decide) rfl) hU hW⟩ rfl rfl hl.1 rfl (lv_room (Nat.le_of_ble_eq_true rfl)) dX1_weighPairs_72 ⟨Nat.zero_le _, Nat.zero_le _⟩) hS hA hP hD (fun H locs hP hD hS => ?_)
        refine lv_iinc (v := (x3 + nI 1)) (lv' := [(3, .int (x3 + nI 1)), (4, .int (f_ 1 x3.toNatClampNeg)), (0, .ref (ad 0)), (1, .ref (ao1 0)), (2, .int x2)]) hx hb dX1_weighPairs_75 hl (k := 4) rfl (ii_x 1 _) (by decide) rfl (fun ls hl => ?_)
        refine lv_goto (tgt := 2) hx hb dX1_weighPairs_78 (by decide) ?_
        have hK9 := K_of hf hK
        have hK9 := hW2 _ hK9
        exact hK9 _ _ _ hP hD hS (lv_sub hl [2, 3, 4, 0] rfl)
  · try dsimp only at hf
    show ∀ (H : Heap) (locs : List Loc) (ls : Array Slot), va_P G.1 vwCl (wX1 G ad (adf 0) f_2 ++ (wX0 G adf fflock_2 ++ (wX0 G ao1 fo1))) H → va_D A (wX1 G ad (adf 0) f_2 ++ (wX0 G adf fflock_2 ++ (wX0 G ao1 fo1))) → va_S A s.heap H locs → lv_has ls 5 [] → W p l e ({ frames := 5, cells := 0, slots := 0, locals := 106 }) s m args below meth c H locs 0 0 Q (F0 m 81 ls [])
    intro H locs ls hP hD hS hl
    have hK9 := K0_of hf hK
    exact hRet f_2 fflock_2 _ _ _ _ hK9 dX1_weighPairs_81 hP hD hS
noncomputable def p_X1_findBest_B110 (f_ : Mem) (fflock_ : Mem) (fo1 : Mem) (x3 : Int32) (x4 : Int32) : Option ((Int32 × Mem × Mem) ⊕ (Mem × Mem)) :=
  gd (inb x4 135) <|
  Option.bind (p_X1_make f_ fflock_ (f_ 1 x4.toNatClampNeg) (-1 : Int32)) <| fun fflock_119 =>
  some (Sum.inl ((x4 + nI 1), f_, fflock_119))
noncomputable def p_X1_findBest_L57 (fo1 : Mem) (x3 : Int32) (z : Int32 × Mem × Mem) : Option ((Int32 × Mem × Mem) ⊕ (Mem × Mem)) :=
  match z with
  | (x4, f_, fflock_) =>
    if (f_ 0 0) ≤ x4 then
      (some (Sum.inr (f_, fflock_)))
    else
      (if x3 < (nI 1) then
         (some (Sum.inr (f_, fflock_)))
       else
         (gd (inb x4 135) <|
          Option.bind (p_X1_make f_ fflock_ (f_ 1 x4.toNatClampNeg) (nI 1)) <| fun fflock_80 =>
          gd (inb x4 135) <|
          Option.bind (p_X1_weigh f_ fflock_80 fo1 (nI 1) (f_ 1 x4.toNatClampNeg) (-4 : Int32)) <| fun f_95 =>
          if x3 < (nI 2) then
            (p_X1_findBest_B110 f_95 fflock_80 fo1 x3 x4)
          else
            (Option.bind (p_X1_weighPairs f_95 fflock_80 fo1 x4) <| fun (f_107, fflock_107) =>
             p_X1_findBest_B110 f_107 fflock_107 fo1 x3 x4)))
noncomputable def p_X1_findBest (f : Mem) (fflock : Mem) (fo1 : Mem) (x2 : Int32) (x3 : Int32) : Option (Mem × Mem) :=
  Option.bind (p_X0_copyFrom fflock fo1) <| fun fflock_5 =>
  Option.bind (p_X0_geeseWithEggOf fflock_5 x2) <| fun r19 =>
  Option.bind (p_J6_bitCount_0f7a4 r19) <| fun r22 =>
  Option.bind (p_X1_listCodes (mset 0 6 (-4 : Int32) (mset 0 5 (-4 : Int32) (mset 0 4 (nI 0) (mset 0 3 (nI 0) (mset 0 2 r22 (mset 0 1 x2 f)))))) fflock_5) <| fun f_51 =>
  Option.bind (lp (p_X1_findBest_L57 fo1 x3) ((nI 0), f_51, fflock_5)) <| fun (f_57, fflock_57) =>
  some (f_57, fflock_57)
set_option maxHeartbeats 4000000 in
set_option maxRecDepth 100000 in
theorem c_X1_findBest (l : Launch) (G : Gt) (ad : Nat → Nat) (adf : Nat → Nat) (ao1 : Nat → Nat) (f : Mem) (fflock : Mem) (fo1 : Mem) (x2 : Int32) (x3 : Int32) (fz : Mem) (fflockz : Mem) (hf : p_X1_findBest f fflock fo1 x2 x3 = some (fz, fflockz)) (sz : Nat) : Met l yX1_findBest wsX1_findBest ({ frames := 6, cells := 0, slots := 0, locals := 130 }) (Pc0 G sz [.ref (ad 0), .ref (ao1 0), .int x2, .int x3] (wX1 G ad (adf 0) f ++ (wX0 G adf fflock ++ (wX0 G ao1 fo1)))) (Qv0 G (va_A (wX1 G ad (adf 0) f ++ (wX0 G adf fflock ++ (wX0 G ao1 fo1))) sz) (wX1 G ad (adf 0) fz ++ (wX0 G adf fflockz ++ (wX0 G ao1 fo1)))) 0 0 (va_A (wX1 G ad (adf 0) f ++ (wX0 G adf fflock ++ (wX0 G ao1 fo1))) sz) := by
  refine metP (Qf := fun A => Qv0 G A (wX1 G ad (adf 0) fz ++ (wX0 G adf fflockz ++ (wX0 G ao1 fo1)))) cX1_findBest 5 (none) (by decide) rfl (Nat.le_of_ble_eq_true rfl) ?_
  intro p e s m below meth c A ls hC hr hlocks hin hE hA hsz hP hD hS hl
  generalize hargs : ([.ref (ad 0), .ref (ao1 0), .int x2, .int x3] : List Value).toArray = args at hC ⊢
  obtain ⟨hx, hb, hml, hown, hts⟩ := id hC
  have hT : va_K G.1 vwCl (tyL G) s := hE.1
  have hRet : ∀ (f9 : Mem) (fflock9 : Mem) (H : Heap) (locs : List Loc) (ls : Array Slot) (pc : Nat) (hK9 : (f9, fflock9) = (fz, fflockz)) (hdg : decode cX1_findBest pc = .ok (.return_, 1)), va_P G.1 vwCl (wX1 G ad (adf 0) f9 ++ (wX0 G adf fflock9 ++ (wX0 G ao1 fo1))) H → va_D A (wX1 G ad (adf 0) f9 ++ (wX0 G adf fflock9 ++ (wX0 G ao1 fo1))) → va_S A s.heap H locs → W p l e ({ frames := 6, cells := 0, slots := 0, locals := 130 }) s m args below meth c H locs 0 0 (MQ below (Qv0 G A (wX1 G ad (adf 0) fz ++ (wX0 G adf fflockz ++ (wX0 G ao1 fo1)))) args s 0 0 A) (F0 m pc ls []) := by
    intro f9 fflock9 H locs ls pc hK9 hdg hP hD hS
    cases hK9
    exact W.vret hx hb hr (fun t ht hW => ⟨⟨(), rfl, trivial, by rw [ht]; exact hP, hD⟩, hS.F ht⟩) hS.2.2 hdg hlocks
  generalize MQ below (Qv0 G A (wX1 G ad (adf 0) fz ++ (wX0 G adf fflockz ++ (wX0 G ao1 fo1)))) args s 0 0 A = Q at hRet ⊢
  have lk12 := hts (.fieldLink RX1 12 "FeatherShares$RowSearch" "flock" "LFeatherShares$Flock;") (by decide +kernel)
  have inX1 : ∀ w ∈ u_ws RX1 TX1 9, w ∈ wsX1_findBest := by decide +kernel
  have lk26 := hts (.fieldLink RX1 26 "FeatherShares$RowSearch" "buyer" "I") (by decide +kernel)
  have lk29 := hts (.fieldLink RX1 29 "FeatherShares$RowSearch" "bestGeese" "I") (by decide +kernel)
  have lk32 := hts (.fieldLink RX1 32 "FeatherShares$RowSearch" "bestMoney" "I") (by decide +kernel)
  have lk35 := hts (.fieldLink RX1 35 "FeatherShares$RowSearch" "bestLength" "I") (by decide +kernel)
  have lk38 := hts (.fieldLink RX1 38 "FeatherShares$RowSearch" "bestFirst" "I") (by decide +kernel)
  have lk41 := hts (.fieldLink RX1 41 "FeatherShares$RowSearch" "bestSecond" "I") (by decide +kernel)
  have lk18 := hts (.fieldLink RX1 18 "FeatherShares$RowSearch" "codes" "[I") (by decide +kernel)
  have lk22 := hts (.fieldLink RX1 22 "FeatherShares$RowSearch" "codeCount" "I") (by decide +kernel)
  have hl : lv_has ls 5 [(0, .ref (ad 0)), (1, .ref (ao1 0)), (2, .int x2), (3, .int x3)] := hl
  have hK0 : (fz, fflockz) = (fz, fflockz) := rfl
  obtain ⟨res, hres, hK⟩ : ∃ res, p_X1_findBest f fflock fo1 x2 x3 = some res ∧ res = (fz, fflockz) := ⟨_, hf, rfl⟩
  clear hf
  have hf := hres
  clear hres
  unfold p_X1_findBest at hf
  refine lv_aload_n hx hb dX1_findBest_0 rfl (lv_at hl 0 rfl) ?_
  refine va_get (C := RX1) (T := TX1) (N := 9) (ci := 1) (v := .ref (adf 0)) hx hb hts inX1 hown hT hP 0 rfl rfl 0 (Nat.le_of_ble_eq_true rfl) lk12 (fun _ h => h) rfl dX1_findBest_1 ?_
  refine lv_aload_n hx hb dX1_findBest_4 rfl (lv_at hl 1 rfl) ?_
  obtain ⟨fflock_5, hc5, hf⟩ := bd_e hf
  refine cl_v_up (Wd := (wX1 G ad (adf 0) f ++ (wX0 G adf fflock ++ (wX0 G ao1 fo1)))) (Wc := (wX0 G adf fflock ++ (wX0 G ao1 fo1))) (W' := (wX0 G adf fflock_5 ++ (wX0 G ao1 fo1))) (W2 := (wX1 G ad (adf 0) f ++ (wX0 G adf fflock_5 ++ (wX0 G ao1 fo1)))) (Wr := (wX1 G ad (adf 0) f)) [2, 3, 4, 5, 6, 7, 8, 9, 10, 11, 12, 13, 14, 15, 16, 17, 18, 19, 20, 21, 22, 23] [0, 1] rfl rfl rfl rfl rfl rfl (va_runVN (As := [.ref (ao1 0)]) (rest := []) hC (c_X0_copyFrom l G adf ao1 fflock fo1 fflock_5 hc5 _) ⟨va_cnB 1 hts gX1_findBest_X0_copyFrom_n44 rfl rfl rfl (hE.2.2 (RX1, 44, yX0_copyFrom, "FeatherShares") (List.mem_of_getElem? (i := 41) rfl)) (hts (.initialized RX0) (by decide +kernel)) (by decide +kernel) ⟨Nat.le_of_ble_eq_true rfl, Nat.le_of_ble_eq_true rfl⟩, hts (.instanceMethod yX0_copyFrom) (by decide +kernel), hts (.selects RX0 yX0_copyFrom yX0_copyFrom) (by decide +kernel)⟩ ⟨Pc0_blind, va_recv hT hP (q0 := 2) (ci := 0) rfl rfl, fun U hU hW => Pc0_at (Wd := (wX0 G adf fflock ++ (wX0 G ao1 fo1))) hE (hP.subm [2, 3, 4, 5, 6, 7, 8, 9, 10, 11, 12, 13, 14, 15, 16, 17, 18, 19, 20, 21, 22, 23] rfl) (hD.sub [2, 3, 4, 5, 6, 7, 8, 9, 10, 11, 12, 13, 14, 15, 16, 17, 18, 19, 20, 21, 22, 23] (by decide) rfl) hU hW⟩ rfl rfl hl.1 rfl (lv_room (Nat.le_of_ble_eq_true rfl)) dX1_findBest_5 ⟨Nat.zero_le _, Nat.zero_le _⟩) hS hA hP hD (fun H locs hP hD hS => ?_)
  refine lv_aload_n hx hb dX1_findBest_8 rfl (lv_at hl 0 rfl) ?_
  refine lv_iload_n hx hb dX1_findBest_9 rfl (lv_at hl 2 rfl) ?_
  refine va_put (C := RX1) (T := TX1) (N := 9) (ci := 1) (ty := .int) (v := .int x2) hx hb hts inX1 tyX1 tyX1_ok nmX1 hown hT hP hD hS 0 rfl rfl 3 (Nat.le_of_ble_eq_true rfl) lk26 (fun _ h => h) rfl (by decide +kernel) rfl rfl (Nat.le_of_ble_eq_true rfl) dX1_findBest_10 (fun H locs hP hD hS => ?_)
  have hP : va_P G.1 vwCl (wX1 G ad (adf 0) (mset 0 1 x2 f) ++ (wX0 G adf fflock_5 ++ (wX0 G ao1 fo1))) H := hP
  have hD : va_D A (wX1 G ad (adf 0) (mset 0 1 x2 f) ++ (wX0 G adf fflock_5 ++ (wX0 G ao1 fo1))) := hD
  refine lv_aload_n hx hb dX1_findBest_13 rfl (lv_at hl 0 rfl) ?_
  refine lv_aload_n hx hb dX1_findBest_14 rfl (lv_at hl 0 rfl) ?_
  refine va_get (C := RX1) (T := TX1) (N := 9) (ci := 1) (v := .ref (adf 0)) hx hb hts inX1 hown hT hP 0 rfl rfl 0 (Nat.le_of_ble_eq_true rfl) lk12 (fun _ h => h) rfl dX1_findBest_15 ?_
  refine lv_iload_n hx hb dX1_findBest_18 rfl (lv_at hl 2 rfl) ?_
  obtain ⟨r19, hc19, hf⟩ := bd_e hf
  refine cl_i_ro (Wd := (wX1 G ad (adf 0) (mset 0 1 x2 f) ++ (wX0 G adf fflock_5 ++ (wX0 G ao1 fo1)))) (Wc := (wX0 G adf fflock_5)) [2, 3, 4, 5, 6, 7, 8, 9, 10, 11, 12] rfl (va_runVN (As := [.int x2]) (rest := [.ref (ad 0)]) hC (c_X0_geeseWithEggOf l G adf fflock_5 x2 r19 hc19 _) ⟨va_cnB 1 hts gX1_findBest_X0_geeseWithEggOf_n48 rfl rfl rfl (hE.2.2 (RX1, 48, yX0_geeseWithEggOf, "FeatherShares") (List.mem_of_getElem? (i := 42) rfl)) (hts (.initialized RX0) (by decide +kernel)) (by decide +kernel) ⟨Nat.le_of_ble_eq_true rfl, Nat.le_of_ble_eq_true rfl⟩, hts (.instanceMethod yX0_geeseWithEggOf) (by decide +kernel), hts (.selects RX0 yX0_geeseWithEggOf yX0_geeseWithEggOf) (by decide +kernel)⟩ ⟨Pc0_blind, va_recv hT hP (q0 := 2) (ci := 0) rfl rfl, fun U hU hW => Pc0_at (Wd := (wX0 G adf fflock_5)) hE (hP.subm [2, 3, 4, 5, 6, 7, 8, 9, 10, 11, 12] rfl) (hD.sub [2, 3, 4, 5, 6, 7, 8, 9, 10, 11, 12] (by decide) rfl) hU hW⟩ rfl rfl hl.1 rfl (lv_room (Nat.le_of_ble_eq_true rfl)) dX1_findBest_19 ⟨Nat.zero_le _, Nat.zero_le _⟩) hS hA hP hD (fun H locs hP hD hS => ?_)
  obtain ⟨r22, hc22, hf⟩ := bd_e hf
  refine cl_i_ro (Wd := (wX1 G ad (adf 0) (mset 0 1 x2 f) ++ (wX0 G adf fflock_5 ++ (wX0 G ao1 fo1)))) (Wc := ([] : va_W)) [] rfl (va_runS (As := [.int r19]) (rest := [.ref (ad 0)]) hC (c_J6_bitCount_0f7a4 l G r19 r22 hc22 _) (va_cwS 1 hts gX1_findBest_J6_bitCount_0f7a4 rfl rfl rfl (by decide +kernel) ⟨Nat.le_of_ble_eq_true rfl, Nat.le_of_ble_eq_true rfl⟩) ⟨Pc0_blind, fun U hU hW => Pc0_at (Wd := ([] : va_W)) hE (hP.subm [] rfl) (hD.sub [] (by decide) rfl) hU hW⟩ rfl rfl hl.1 rfl (lv_room (Nat.le_of_ble_eq_true rfl)) dX1_findBest_22 ⟨Nat.zero_le _, Nat.zero_le _⟩) hS hA hP hD (fun H locs hP hD hS => ?_)
  refine va_put (C := RX1) (T := TX1) (N := 9) (ci := 1) (ty := .int) (v := .int r22) hx hb hts inX1 tyX1 tyX1_ok nmX1 hown hT hP hD hS 0 rfl rfl 4 (Nat.le_of_ble_eq_true rfl) lk29 (fun _ h => h) rfl (by decide +kernel) rfl rfl (Nat.le_of_ble_eq_true rfl) dX1_findBest_25 (fun H locs hP hD hS => ?_)
  have hP : va_P G.1 vwCl (wX1 G ad (adf 0) (mset 0 2 r22 (mset 0 1 x2 f)) ++ (wX0 G adf fflock_5 ++ (wX0 G ao1 fo1))) H := hP
  have hD : va_D A (wX1 G ad (adf 0) (mset 0 2 r22 (mset 0 1 x2 f)) ++ (wX0 G adf fflock_5 ++ (wX0 G ao1 fo1))) := hD
  refine lv_aload_n hx hb dX1_findBest_28 rfl (lv_at hl 0 rfl) ?_
  refine lv_iconst (v := (nI 0)) hx hb dX1_findBest_29 (ic_0) ?_
  refine va_put (C := RX1) (T := TX1) (N := 9) (ci := 1) (ty := .int) (v := .int (nI 0)) hx hb hts inX1 tyX1 tyX1_ok nmX1 hown hT hP hD hS 0 rfl rfl 5 (Nat.le_of_ble_eq_true rfl) lk32 (fun _ h => h) rfl (by decide +kernel) rfl rfl (Nat.le_of_ble_eq_true rfl) dX1_findBest_30 (fun H locs hP hD hS => ?_)
  have hP : va_P G.1 vwCl (wX1 G ad (adf 0) (mset 0 3 (nI 0) (mset 0 2 r22 (mset 0 1 x2 f))) ++ (wX0 G adf fflock_5 ++ (wX0 G ao1 fo1))) H := hP
  have hD : va_D A (wX1 G ad (adf 0) (mset 0 3 (nI 0) (mset 0 2 r22 (mset 0 1 x2 f))) ++ (wX0 G adf fflock_5 ++ (wX0 G ao1 fo1))) := hD
  refine lv_aload_n hx hb dX1_findBest_33 rfl (lv_at hl 0 rfl) ?_
  refine lv_iconst (v := (nI 0)) hx hb dX1_findBest_34 (ic_0) ?_
  refine va_put (C := RX1) (T := TX1) (N := 9) (ci := 1) (ty := .int) (v := .int (nI 0)) hx hb hts inX1 tyX1 tyX1_ok nmX1 hown hT hP hD hS 0 rfl rfl 6 (Nat.le_of_ble_eq_true rfl) lk35 (fun _ h => h) rfl (by decide +kernel) rfl rfl (Nat.le_of_ble_eq_true rfl) dX1_findBest_35 (fun H locs hP hD hS => ?_)
  have hP : va_P G.1 vwCl (wX1 G ad (adf 0) (mset 0 4 (nI 0) (mset 0 3 (nI 0) (mset 0 2 r22 (mset 0 1 x2 f)))) ++ (wX0 G adf fflock_5 ++ (wX0 G ao1 fo1))) H := hP
  have hD : va_D A (wX1 G ad (adf 0) (mset 0 4 (nI 0) (mset 0 3 (nI 0) (mset 0 2 r22 (mset 0 1 x2 f)))) ++ (wX0 G adf fflock_5 ++ (wX0 G ao1 fo1))) := hD
  refine lv_aload_n hx hb dX1_findBest_38 rfl (lv_at hl 0 rfl) ?_
  refine lv_bipush (v := (-4 : Int32)) hx hb dX1_findBest_39 (bi_m4) ?_
  refine va_put (C := RX1) (T := TX1) (N := 9) (ci := 1) (ty := .int) (v := .int (-4 : Int32)) hx hb hts inX1 tyX1 tyX1_ok nmX1 hown hT hP hD hS 0 rfl rfl 7 (Nat.le_of_ble_eq_true rfl) lk38 (fun _ h => h) rfl (by decide +kernel) rfl rfl (Nat.le_of_ble_eq_true rfl) dX1_findBest_41 (fun H locs hP hD hS => ?_)
  have hP : va_P G.1 vwCl (wX1 G ad (adf 0) (mset 0 5 (-4 : Int32) (mset 0 4 (nI 0) (mset 0 3 (nI 0) (mset 0 2 r22 (mset 0 1 x2 f))))) ++ (wX0 G adf fflock_5 ++ (wX0 G ao1 fo1))) H := hP
  have hD : va_D A (wX1 G ad (adf 0) (mset 0 5 (-4 : Int32) (mset 0 4 (nI 0) (mset 0 3 (nI 0) (mset 0 2 r22 (mset 0 1 x2 f))))) ++ (wX0 G adf fflock_5 ++ (wX0 G ao1 fo1))) := hD
  refine lv_aload_n hx hb dX1_findBest_44 rfl (lv_at hl 0 rfl) ?_
  refine lv_bipush (v := (-4 : Int32)) hx hb dX1_findBest_45 (bi_m4) ?_
  refine va_put (C := RX1) (T := TX1) (N := 9) (ci := 1) (ty := .int) (v := .int (-4 : Int32)) hx hb hts inX1 tyX1 tyX1_ok nmX1 hown hT hP hD hS 0 rfl rfl 8 (Nat.le_of_ble_eq_true rfl) lk41 (fun _ h => h) rfl (by decide +kernel) rfl rfl (Nat.le_of_ble_eq_true rfl) dX1_findBest_47 (fun H locs hP hD hS => ?_)
  have hP : va_P G.1 vwCl (wX1 G ad (adf 0) (mset 0 6 (-4 : Int32) (mset 0 5 (-4 : Int32) (mset 0 4 (nI 0) (mset 0 3 (nI 0) (mset 0 2 r22 (mset 0 1 x2 f)))))) ++ (wX0 G adf fflock_5 ++ (wX0 G ao1 fo1))) H := hP
  have hD : va_D A (wX1 G ad (adf 0) (mset 0 6 (-4 : Int32) (mset 0 5 (-4 : Int32) (mset 0 4 (nI 0) (mset 0 3 (nI 0) (mset 0 2 r22 (mset 0 1 x2 f)))))) ++ (wX0 G adf fflock_5 ++ (wX0 G ao1 fo1))) := hD
  refine lv_aload_n hx hb dX1_findBest_50 rfl (lv_at hl 0 rfl) ?_
  obtain ⟨f_51, hc51, hf⟩ := bd_e hf
  refine cl_v_up (Wd := (wX1 G ad (adf 0) (mset 0 6 (-4 : Int32) (mset 0 5 (-4 : Int32) (mset 0 4 (nI 0) (mset 0 3 (nI 0) (mset 0 2 r22 (mset 0 1 x2 f)))))) ++ (wX0 G adf fflock_5 ++ (wX0 G ao1 fo1)))) (Wc := (wX1 G ad (adf 0) (mset 0 6 (-4 : Int32) (mset 0 5 (-4 : Int32) (mset 0 4 (nI 0) (mset 0 3 (nI 0) (mset 0 2 r22 (mset 0 1 x2 f)))))) ++ (wX0 G adf fflock_5))) (W' := (wX1 G ad (adf 0) f_51 ++ (wX0 G adf fflock_5))) (W2 := (wX1 G ad (adf 0) f_51 ++ (wX0 G adf fflock_5 ++ (wX0 G ao1 fo1)))) (Wr := (wX0 G ao1 fo1)) [0, 1, 2, 3, 4, 5, 6, 7, 8, 9, 10, 11, 12] [13, 14, 15, 16, 17, 18, 19, 20, 21, 22, 23] rfl rfl rfl rfl rfl rfl (va_runV (As := []) (rest := []) hC (c_X1_listCodes l G ad adf (mset 0 6 (-4 : Int32) (mset 0 5 (-4 : Int32) (mset 0 4 (nI 0) (mset 0 3 (nI 0) (mset 0 2 r22 (mset 0 1 x2 f)))))) fflock_5 f_51 hc51 _) (cwV 0 hts gX1_findBest_X1_listCodes rfl rfl rfl (by decide +kernel) ⟨Nat.le_of_ble_eq_true rfl, Nat.le_of_ble_eq_true rfl⟩) ⟨Pc0_blind, va_recv hT hP (q0 := 0) (ci := 1) rfl rfl, fun U hU hW => Pc0_at (Wd := (wX1 G ad (adf 0) (mset 0 6 (-4 : Int32) (mset 0 5 (-4 : Int32) (mset 0 4 (nI 0) (mset 0 3 (nI 0) (mset 0 2 r22 (mset 0 1 x2 f)))))) ++ (wX0 G adf fflock_5))) hE (hP.subm [0, 1, 2, 3, 4, 5, 6, 7, 8, 9, 10, 11, 12] rfl) (hD.sub [0, 1, 2, 3, 4, 5, 6, 7, 8, 9, 10, 11, 12] (by decide) rfl) hU hW⟩ rfl rfl hl.1 rfl (lv_room (Nat.le_of_ble_eq_true rfl)) dX1_findBest_51 ⟨Nat.zero_le _, Nat.zero_le _⟩) hS hA hP hD (fun H locs hP hD hS => ?_)
  refine lv_iconst (v := (nI 0)) hx hb dX1_findBest_54 (ic_0) ?_
  refine lv_istore (lv' := [(4, .int (nI 0)), (0, .ref (ad 0)), (1, .ref (ao1 0)), (2, .int x2), (3, .int x3)]) hx hb dX1_findBest_55 hl (by decide) rfl (fun ls hl => ?_)
  obtain ⟨⟨f_57, fflock_57⟩, hlp, hf⟩ := bd_e hf
  refine lp_W1 (p_X1_findBest_L57 fo1 x3) (fun z => match z with | (x4, f_, fflock_) => ∀ (H : Heap) (locs : List Loc) (ls : Array Slot), va_P G.1 vwCl (wX1 G ad (adf 0) f_ ++ (wX0 G adf fflock_ ++ (wX0 G ao1 fo1))) H → va_D A (wX1 G ad (adf 0) f_ ++ (wX0 G adf fflock_ ++ (wX0 G ao1 fo1))) → va_S A s.heap H locs → lv_has ls 5 [(0, .ref (ad 0)), (1, .ref (ao1 0)), (3, .int x3), (4, .int x4)] → W p l e ({ frames := 6, cells := 0, slots := 0, locals := 130 }) s m args below meth c H locs 0 0 Q (F0 m 57 ls [])) (fun z => match z with | (f_57, fflock_57) => ∀ (H : Heap) (locs : List Loc) (ls : Array Slot), va_P G.1 vwCl (wX1 G ad (adf 0) f_57 ++ (wX0 G adf fflock_57 ++ (wX0 G ao1 fo1))) H → va_D A (wX1 G ad (adf 0) f_57 ++ (wX0 G adf fflock_57 ++ (wX0 G ao1 fo1))) → va_S A s.heap H locs → lv_has ls 5 [] → W p l e ({ frames := 6, cells := 0, slots := 0, locals := 130 }) s m args below meth c H locs 0 0 Q (F0 m 128 ls [])) ?_ hlp ?_ _ _ _ hP hD hS (lv_sub hl [1, 2, 4, 0] rfl)
  · clear hlp hf hK hP hD hS hl
    intro K57 hW57 hX57 
    have hB110 : ∀ (f_ : Mem) (fflock_ : Mem) (x4 : Int32) (res : (Int32 × Mem × Mem) ⊕ (Mem × Mem)) (hf : p_X1_findBest_B110 f_ fflock_ fo1 x3 x4 = some res) (hK : K57 res), ∀ (H : Heap) (locs : List Loc) (ls : Array Slot), va_P G.1 vwCl (wX1 G ad (adf 0) f_ ++ (wX0 G adf fflock_ ++ (wX0 G ao1 fo1))) H → va_D A (wX1 G ad (adf 0) f_ ++ (wX0 G adf fflock_ ++ (wX0 G ao1 fo1))) → va_S A s.heap H locs → lv_has ls 5 [(0, .ref (ad 0)), (1, .ref (ao1 0)), (3, .int x3), (4, .int x4)] → W p l e ({ frames := 6, cells := 0, slots := 0, locals := 130 }) s m args below meth c H locs 0 0 Q (F0 m 110 ls []) := by
      intro f_ fflock_ x4 res hf hK H locs ls hP hD hS hl
      unfold p_X1_findBest_B110 at hf
      refine lv_aload_n hx hb dX1_findBest_110 rfl (lv_at hl 0 rfl) ?_
      refine lv_aload_n hx hb dX1_findBest_111 rfl (lv_at hl 0 rfl) ?_
      refine va_get (C := RX1) (T := TX1) (N := 9) (ci := 1) (v := .ref (ad 1)) hx hb hts inX1 hown hT hP 0 rfl rfl 1 (Nat.le_of_ble_eq_true rfl) lk18 (fun _ h => h) rfl dX1_findBest_112 ?_
      refine lv_iload hx hb dX1_findBest_115 (lv_at hl 3 rfl) ?_
      obtain ⟨hg, hf⟩ := gd_e hf
      refine va_iald (f := f_ 1) hx hb hT hP 1 0 rfl rfl (inb_e hg) dX1_findBest_117 ?_
      refine lv_iconst (v := (-1 : Int32)) hx hb dX1_findBest_118 (ic_m1) ?_
      obtain ⟨fflock_119, hc119, hf⟩ := bd_e hf
      refine cl_v_up (Wd := (wX1 G ad (adf 0) f_ ++ (wX0 G adf fflock_ ++ (wX0 G ao1 fo1)))) (Wc := (wX1 G ad (adf 0) f_ ++ (wX0 G adf fflock_))) (W' := (wX1 G ad (adf 0) f_ ++ (wX0 G adf fflock_119))) (W2 := (wX1 G ad (adf 0) f_ ++ (wX0 G adf fflock_119 ++ (wX0 G ao1 fo1)))) (Wr := (wX0 G ao1 fo1)) [0, 1, 2, 3, 4, 5, 6, 7, 8, 9, 10, 11, 12] [13, 14, 15, 16, 17, 18, 19, 20, 21, 22, 23] rfl rfl rfl rfl rfl rfl (va_runV (As := [.int (f_ 1 x4.toNatClampNeg), .int (-1 : Int32)]) (rest := []) hC (c_X1_make l G ad adf f_ fflock_ (f_ 1 x4.toNatClampNeg) (-1 : Int32) fflock_119 hc119 _) (cwV 2 hts gX1_findBest_X1_make rfl rfl rfl (by decide +kernel) ⟨Nat.le_of_ble_eq_true rfl, Nat.le_of_ble_eq_true rfl⟩) ⟨Pc0_blind, va_recv hT hP (q0 := 0) (ci := 1) rfl rfl, fun U hU hW => Pc0_at (Wd := (wX1 G ad (adf 0) f_ ++ (wX0 G adf fflock_))) hE (hP.subm [0, 1, 2, 3, 4, 5, 6, 7, 8, 9, 10, 11, 12] rfl) (hD.sub [0, 1, 2, 3, 4, 5, 6, 7, 8, 9, 10, 11, 12] (by decide) rfl) hU hW⟩ rfl rfl hl.1 rfl (lv_room (Nat.le_of_ble_eq_true rfl)) dX1_findBest_119 ⟨Nat.zero_le _, Nat.zero_le _⟩) hS hA hP hD (fun H locs hP hD hS => ?_)
      refine lv_iinc (v := (x4 + nI 1)) (lv' := [(4, .int (x4 + nI 1)), (0, .ref (ad 0)), (1, .ref (ao1 0)), (3, .int x3)]) hx hb dX1_findBest_122 hl (k := 3) rfl (ii_x 1 _) (by decide) rfl (fun ls hl => ?_)
      refine lv_goto (tgt := 57) hx hb dX1_findBest_125 (by decide) ?_
      have hK9 := K_of hf hK
      have hK9 := hW57 _ hK9
      exact hK9 _ _ _ hP hD hS (lv_sub hl [1, 2, 3, 0] rfl)
    rintro ⟨x4, f_, fflock_⟩ res hf hK H locs ls hP hD hS hl
    unfold p_X1_findBest_L57 at hf
    dsimp only at hf
    refine lv_iload hx hb dX1_findBest_57 (lv_at hl 3 rfl) ?_
    refine lv_aload_n hx hb dX1_findBest_59 rfl (lv_at hl 0 rfl) ?_
    refine va_get (C := RX1) (T := TX1) (N := 9) (ci := 1) (v := .int (f_ 0 0)) hx hb hts inX1 hown hT hP 0 rfl rfl 2 (Nat.le_of_ble_eq_true rfl) lk22 (fun _ h => h) rfl dX1_findBest_60 ?_
    refine lv_icmp_ge (tgt := 128) hx hb dX1_findBest_63 (by decide) (fun hc => ?_) (fun hc => ?_)
    · have hf := if_t hf hc
      have hK9 := K_of hf hK
      have hK9 := hX57 _ hK9
      exact hK9 _ _ _ hP hD hS (lv_sub hl [] rfl)
    · have hf := if_f hf hc
      refine lv_iload_n hx hb dX1_findBest_66 rfl (lv_at hl 2 rfl) ?_
      refine lv_iconst (v := (nI 1)) hx hb dX1_findBest_67 (ic_1) ?_
      refine lv_icmp_lt (tgt := 128) hx hb dX1_findBest_68 (by decide) (fun hc => ?_) (fun hc => ?_)
      · have hf := if_t hf hc
        have hK9 := K_of hf hK
        have hK9 := hX57 _ hK9
        exact hK9 _ _ _ hP hD hS (lv_sub hl [] rfl)
      · have hf := if_f hf hc
        refine lv_aload_n hx hb dX1_findBest_71 rfl (lv_at hl 0 rfl) ?_
        refine lv_aload_n hx hb dX1_findBest_72 rfl (lv_at hl 0 rfl) ?_
        refine va_get (C := RX1) (T := TX1) (N := 9) (ci := 1) (v := .ref (ad 1)) hx hb hts inX1 hown hT hP 0 rfl rfl 1 (Nat.le_of_ble_eq_true rfl) lk18 (fun _ h => h) rfl dX1_findBest_73 ?_
        refine lv_iload hx hb dX1_findBest_76 (lv_at hl 3 rfl) ?_
        obtain ⟨hg, hf⟩ := gd_e hf
        refine va_iald (f := f_ 1) hx hb hT hP 1 0 rfl rfl (inb_e hg) dX1_findBest_78 ?_
        refine lv_iconst (v := (nI 1)) hx hb dX1_findBest_79 (ic_1) ?_
        obtain ⟨fflock_80, hc80, hf⟩ := bd_e hf
        refine cl_v_up (Wd := (wX1 G ad (adf 0) f_ ++ (wX0 G adf fflock_ ++ (wX0 G ao1 fo1)))) (Wc := (wX1 G ad (adf 0) f_ ++ (wX0 G adf fflock_))) (W' := (wX1 G ad (adf 0) f_ ++ (wX0 G adf fflock_80))) (W2 := (wX1 G ad (adf 0) f_ ++ (wX0 G adf fflock_80 ++ (wX0 G ao1 fo1)))) (Wr := (wX0 G ao1 fo1)) [0, 1, 2, 3, 4, 5, 6, 7, 8, 9, 10, 11, 12] [13, 14, 15, 16, 17, 18, 19, 20, 21, 22, 23] rfl rfl rfl rfl rfl rfl (va_runV (As := [.int (f_ 1 x4.toNatClampNeg), .int (nI 1)]) (rest := []) hC (c_X1_make l G ad adf f_ fflock_ (f_ 1 x4.toNatClampNeg) (nI 1) fflock_80 hc80 _) (cwV 2 hts gX1_findBest_X1_make rfl rfl rfl (by decide +kernel) ⟨Nat.le_of_ble_eq_true rfl, Nat.le_of_ble_eq_true rfl⟩) ⟨Pc0_blind, va_recv hT hP (q0 := 0) (ci := 1) rfl rfl, fun U hU hW => Pc0_at (Wd := (wX1 G ad (adf 0) f_ ++ (wX0 G adf fflock_))) hE (hP.subm [0, 1, 2, 3, 4, 5, 6, 7, 8, 9, 10, 11, 12] rfl) (hD.sub [0, 1, 2, 3, 4, 5, 6, 7, 8, 9, 10, 11, 12] (by decide) rfl) hU hW⟩ rfl rfl hl.1 rfl (lv_room (Nat.le_of_ble_eq_true rfl)) dX1_findBest_80 ⟨Nat.zero_le _, Nat.zero_le _⟩) hS hA hP hD (fun H locs hP hD hS => ?_)
        refine lv_aload_n hx hb dX1_findBest_83 rfl (lv_at hl 0 rfl) ?_
        refine lv_aload_n hx hb dX1_findBest_84 rfl (lv_at hl 1 rfl) ?_
        refine lv_iconst (v := (nI 1)) hx hb dX1_findBest_85 (ic_1) ?_
        refine lv_aload_n hx hb dX1_findBest_86 rfl (lv_at hl 0 rfl) ?_
        refine va_get (C := RX1) (T := TX1) (N := 9) (ci := 1) (v := .ref (ad 1)) hx hb hts inX1 hown hT hP 0 rfl rfl 1 (Nat.le_of_ble_eq_true rfl) lk18 (fun _ h => h) rfl dX1_findBest_87 ?_
        refine lv_iload hx hb dX1_findBest_90 (lv_at hl 3 rfl) ?_
        obtain ⟨hg, hf⟩ := gd_e hf
        refine va_iald (f := f_ 1) hx hb hT hP 1 0 rfl rfl (inb_e hg) dX1_findBest_92 ?_
        refine lv_bipush (v := (-4 : Int32)) hx hb dX1_findBest_93 (bi_m4) ?_
        obtain ⟨f_95, hc95, hf⟩ := bd_e hf
        refine cl_v_same (Wd := (wX1 G ad (adf 0) f_ ++ (wX0 G adf fflock_80 ++ (wX0 G ao1 fo1)))) (W' := (wX1 G ad (adf 0) f_95 ++ (wX0 G adf fflock_80 ++ (wX0 G ao1 fo1)))) (va_runV (As := [.ref (ao1 0), .int (nI 1), .int (f_ 1 x4.toNatClampNeg), .int (-4 : Int32)]) (rest := []) hC (c_X1_weigh l G ad adf ao1 f_ fflock_80 fo1 (nI 1) (f_ 1 x4.toNatClampNeg) (-4 : Int32) f_95 hc95 _) (cwV 4 hts gX1_findBest_X1_weigh rfl rfl rfl (by decide +kernel) ⟨Nat.le_of_ble_eq_true rfl, Nat.le_of_ble_eq_true rfl⟩) ⟨Pc0_blind, va_recv hT hP (q0 := 0) (ci := 1) rfl rfl, fun U hU hW => Pc0_at hE hP hD hU hW⟩ rfl rfl hl.1 rfl (lv_room (Nat.le_of_ble_eq_true rfl)) dX1_findBest_95 ⟨Nat.zero_le _, Nat.zero_le _⟩) hS hA hD (fun H locs hP hD hS => ?_)
        refine lv_iload_n hx hb dX1_findBest_98 rfl (lv_at hl 2 rfl) ?_
        refine lv_iconst (v := (nI 2)) hx hb dX1_findBest_99 (ic_2) ?_
        refine lv_icmp_lt (tgt := 110) hx hb dX1_findBest_100 (by decide) (fun hc => ?_) (fun hc => ?_)
        · have hf := if_t hf hc
          exact hB110 f_95 fflock_80 x4 _ hf hK _ _ _ hP hD hS (lv_sub hl [0, 1, 2, 3] rfl)
        · have hf := if_f hf hc
          refine lv_aload_n hx hb dX1_findBest_103 rfl (lv_at hl 0 rfl) ?_
          refine lv_aload_n hx hb dX1_findBest_104 rfl (lv_at hl 1 rfl) ?_
          refine lv_iload hx hb dX1_findBest_105 (lv_at hl 3 rfl) ?_
          obtain ⟨⟨f_107, fflock_107⟩, hc107, hf⟩ := bd_e hf
          try dsimp only at hf
          refine cl_v_same (Wd := (wX1 G ad (adf 0) f_95 ++ (wX0 G adf fflock_80 ++ (wX0 G ao1 fo1)))) (W' := (wX1 G ad (adf 0) f_107 ++ (wX0 G adf fflock_107 ++ (wX0 G ao1 fo1)))) (va_runV (As := [.ref (ao1 0), .int x4]) (rest := []) hC (c_X1_weighPairs l G ad adf ao1 f_95 fflock_80 fo1 x4 f_107 fflock_107 hc107 _) (cwV 2 hts gX1_findBest_X1_weighPairs rfl rfl rfl (by decide +kernel) ⟨Nat.le_of_ble_eq_true rfl, Nat.le_of_ble_eq_true rfl⟩) ⟨Pc0_blind, va_recv hT hP (q0 := 0) (ci := 1) rfl rfl, fun U hU hW => Pc0_at hE hP hD hU hW⟩ rfl rfl hl.1 rfl (lv_room (Nat.le_of_ble_eq_true rfl)) dX1_findBest_107 ⟨Nat.zero_le _, Nat.zero_le _⟩) hS hA hD (fun H locs hP hD hS => ?_)
          exact hB110 f_107 fflock_107 x4 _ hf hK _ _ _ hP hD hS (lv_sub hl [0, 1, 2, 3] rfl)
  · try dsimp only at hf
    show ∀ (H : Heap) (locs : List Loc) (ls : Array Slot), va_P G.1 vwCl (wX1 G ad (adf 0) f_57 ++ (wX0 G adf fflock_57 ++ (wX0 G ao1 fo1))) H → va_D A (wX1 G ad (adf 0) f_57 ++ (wX0 G adf fflock_57 ++ (wX0 G ao1 fo1))) → va_S A s.heap H locs → lv_has ls 5 [] → W p l e ({ frames := 6, cells := 0, slots := 0, locals := 130 }) s m args below meth c H locs 0 0 Q (F0 m 128 ls [])
    intro H locs ls hP hD hS hl
    have hK9 := K0_of hf hK
    exact hRet f_57 fflock_57 _ _ _ _ hK9 dX1_findBest_128 hP hD hS
noncomputable def p_X2_renew (f : Mem) (x1 : Int32) (x2 : Int32) : Option (Mem) :=
  Option.bind (p_J7_fill_53178 40 (f 1) (nI 0)) <| fun g_20 =>
  some (mrow 1 (g_20) (mset 0 2 x2 (mset 0 1 x1 (mset 0 0 (nI 0) f))))
set_option maxHeartbeats 4000000 in
set_option maxRecDepth 100000 in
theorem c_X2_renew (l : Launch) (G : Gt) (ad : Nat → Nat) (f : Mem) (x1 : Int32) (x2 : Int32) (fz : Mem) (hf : p_X2_renew f x1 x2 = some fz) (sz : Nat) : Met l yX2_renew wsX2_renew ({ frames := 2, cells := 0, slots := 0, locals := 35 }) (Pc0 G sz [.ref (ad 0), .int x1, .int x2] (wX2 G ad f)) (Qv0 G (va_A (wX2 G ad f) sz) (wX2 G ad fz)) 0 0 (va_A (wX2 G ad f) sz) := by
  refine metP (Qf := fun A => Qv0 G A (wX2 G ad fz)) cX2_renew 3 (none) (by decide) rfl (Nat.le_of_ble_eq_true rfl) ?_
  intro p e s m below meth c A ls hC hr hlocks hin hE hA hsz hP hD hS hl
  generalize hargs : ([.ref (ad 0), .int x1, .int x2] : List Value).toArray = args at hC ⊢
  obtain ⟨hx, hb, hml, hown, hts⟩ := id hC
  have hT : va_K G.1 vwCl (tyL G) s := hE.1
  have hRet : ∀ (f9 : Mem) (H : Heap) (locs : List Loc) (ls : Array Slot) (pc : Nat) (hK9 : f9 = fz) (hdg : decode cX2_renew pc = .ok (.return_, 1)), va_P G.1 vwCl (wX2 G ad f9) H → va_D A (wX2 G ad f9) → va_S A s.heap H locs → W p l e ({ frames := 2, cells := 0, slots := 0, locals := 35 }) s m args below meth c H locs 0 0 (MQ below (Qv0 G A (wX2 G ad fz)) args s 0 0 A) (F0 m pc ls []) := by
    intro f9 H locs ls pc hK9 hdg hP hD hS
    cases hK9
    exact W.vret hx hb hr (fun t ht hW => ⟨⟨(), rfl, trivial, by rw [ht]; exact hP, hD⟩, hS.F ht⟩) hS.2.2 hdg hlocks
  generalize MQ below (Qv0 G A (wX2 G ad fz)) args s 0 0 A = Q at hRet ⊢
  have lk15 := hts (.fieldLink RX2 15 "FeatherShares$Sheet" "isNothing" "Z") (by decide +kernel)
  have inX2 : ∀ w ∈ u_ws RX2 TX2 4, w ∈ wsX2_renew := by decide +kernel
  have lk19 := hts (.fieldLink RX2 19 "FeatherShares$Sheet" "lane" "I") (by decide +kernel)
  have lk23 := hts (.fieldLink RX2 23 "FeatherShares$Sheet" "size" "I") (by decide +kernel)
  have lk9 := hts (.fieldLink RX2 9 "FeatherShares$Sheet" "cells" "[I") (by decide +kernel)
  have hl : lv_has ls 3 [(0, .ref (ad 0)), (1, .int x1), (2, .int x2)] := hl
  have hK0 : fz = fz := rfl
  obtain ⟨res, hres, hK⟩ : ∃ res, p_X2_renew f x1 x2 = some res ∧ res = fz := ⟨_, hf, rfl⟩
  clear hf
  have hf := hres
  clear hres
  unfold p_X2_renew at hf
  refine lv_aload_n hx hb dX2_renew_0 rfl (lv_at hl 0 rfl) ?_
  refine lv_iconst (v := (nI 0)) hx hb dX2_renew_1 (ic_0) ?_
  refine va_put (C := RX2) (T := TX2) (N := 4) (ci := 2) (ty := .boolean) (v := .int (nI 0)) hx hb hts inX2 tyX2 tyX2_ok nmX2 hown hT hP hD hS 0 rfl rfl 1 (Nat.le_of_ble_eq_true rfl) lk15 (fun _ h => h) rfl (by decide +kernel) rfl rfl (Nat.le_of_ble_eq_true rfl) dX2_renew_2 (fun H locs hP hD hS => ?_)
  have hP : va_P G.1 vwCl (wX2 G ad (mset 0 0 (nI 0) f)) H := hP
  have hD : va_D A (wX2 G ad (mset 0 0 (nI 0) f)) := hD
  refine lv_aload_n hx hb dX2_renew_5 rfl (lv_at hl 0 rfl) ?_
  refine lv_iload_n hx hb dX2_renew_6 rfl (lv_at hl 1 rfl) ?_
  refine va_put (C := RX2) (T := TX2) (N := 4) (ci := 2) (ty := .int) (v := .int x1) hx hb hts inX2 tyX2 tyX2_ok nmX2 hown hT hP hD hS 0 rfl rfl 2 (Nat.le_of_ble_eq_true rfl) lk19 (fun _ h => h) rfl (by decide +kernel) rfl rfl (Nat.le_of_ble_eq_true rfl) dX2_renew_7 (fun H locs hP hD hS => ?_)
  have hP : va_P G.1 vwCl (wX2 G ad (mset 0 1 x1 (mset 0 0 (nI 0) f))) H := hP
  have hD : va_D A (wX2 G ad (mset 0 1 x1 (mset 0 0 (nI 0) f))) := hD
  refine lv_aload_n hx hb dX2_renew_10 rfl (lv_at hl 0 rfl) ?_
  refine lv_iload_n hx hb dX2_renew_11 rfl (lv_at hl 2 rfl) ?_
  refine va_put (C := RX2) (T := TX2) (N := 4) (ci := 2) (ty := .int) (v := .int x2) hx hb hts inX2 tyX2 tyX2_ok nmX2 hown hT hP hD hS 0 rfl rfl 3 (Nat.le_of_ble_eq_true rfl) lk23 (fun _ h => h) rfl (by decide +kernel) rfl rfl (Nat.le_of_ble_eq_true rfl) dX2_renew_12 (fun H locs hP hD hS => ?_)
  have hP : va_P G.1 vwCl (wX2 G ad (mset 0 2 x2 (mset 0 1 x1 (mset 0 0 (nI 0) f)))) H := hP
  have hD : va_D A (wX2 G ad (mset 0 2 x2 (mset 0 1 x1 (mset 0 0 (nI 0) f)))) := hD
  refine lv_aload_n hx hb dX2_renew_15 rfl (lv_at hl 0 rfl) ?_
  refine va_get (C := RX2) (T := TX2) (N := 4) (ci := 2) (v := .ref (ad 1)) hx hb hts inX2 hown hT hP 0 rfl rfl 0 (Nat.le_of_ble_eq_true rfl) lk9 (fun _ h => h) rfl dX2_renew_16 ?_
  refine lv_iconst (v := (nI 0)) hx hb dX2_renew_19 (ic_0) ?_
  obtain ⟨g_20, hc20, hf⟩ := bd_e hf
  refine cl_v_up (Wd := (wX2 G ad (mset 0 2 x2 (mset 0 1 x1 (mset 0 0 (nI 0) f))))) (Wc := (wRow G (ad 1) 40 (f 1))) (W' := (wRow G (ad 1) 40 g_20)) (W2 := (wX2 G ad (mrow 1 (g_20) (mset 0 2 x2 (mset 0 1 x1 (mset 0 0 (nI 0) f)))))) (Wr := ([0] : List Nat).filterMap (fun i => (wX2 G ad (mset 0 2 x2 (mset 0 1 x1 (mset 0 0 (nI 0) f))))[i]?)) [1] [0] rfl rfl rfl rfl rfl rfl (va_runS (As := [.ref (ad 1), .int (nI 0)]) (rest := []) hC (c_J7_fill_53178 l G (ad 1) 40 (f 1) (nI 0) g_20 hc20 _) (va_cwS 2 hts gX2_renew_J7_fill_53178 rfl rfl rfl (by decide +kernel) ⟨Nat.le_of_ble_eq_true rfl, Nat.le_of_ble_eq_true rfl⟩) ⟨Pc0_blind, fun U hU hW => Pc0_at (Wd := (wRow G (ad 1) 40 (f 1))) hE (hP.subm [1] rfl) (hD.sub [1] (by decide) rfl) hU hW⟩ rfl rfl hl.1 rfl (lv_room (Nat.le_of_ble_eq_true rfl)) dX2_renew_20 ⟨Nat.zero_le _, Nat.zero_le _⟩) hS hA hP hD (fun H locs hP hD hS => ?_)
  have hK9 := K0_of hf hK
  exact hRet (mrow 1 (g_20) (mset 0 2 x2 (mset 0 1 x1 (mset 0 0 (nI 0) f)))) _ _ _ _ hK9 dX2_renew_23 hP hD hS
noncomputable def p_X2_put_B56 (f : Mem) (s0 : Int32) (s1 : Int32) : Option (Int32 × Mem) :=
  gd (inb s1 40) <|
  bnd (upd (f 1) s1.toNatClampNeg s0) <| fun g56 =>
  some ((nI 0), (mrow 1 (g56) f))
noncomputable def p_X2_put (f : Mem) (x1 : Int32) (x2 : Int32) : Option (Int32 × Mem) :=
  if (f 0 0) = 0 then
    (Option.bind (p_X6_isWithin x1 (nI 0) ((f 0 2) - (nI 1))) <| fun r17 =>
     if r17 = 0 then
       (some ((nI 2), f))
     else
       (if (f 0 1) = 0 then
          (p_X2_put_B56 f (x2.toInt8.toInt32) x1)
        else
          (if (f 0 1) = (nI 1) then
             (p_X2_put_B56 f (x2.toInt16.toInt32) x1)
           else
             (p_X2_put_B56 f x2 x1))))
  else
    (some ((nI 1), f))
set_option maxHeartbeats 4000000 in
set_option maxRecDepth 100000 in
theorem c_X2_put (l : Launch) (G : Gt) (ad : Nat → Nat) (f : Mem) (x1 : Int32) (x2 : Int32) (r : Int32) (fz : Mem) (hf : p_X2_put f x1 x2 = some (r, fz)) (sz : Nat) : Met l yX2_put wsX2_put ({ frames := 2, cells := 0, slots := 0, locals := 34 }) (Pc0 G sz [.ref (ad 0), .int x1, .int x2] (wX2 G ad f)) (Qi0 G (va_A (wX2 G ad f) sz) r (wX2 G ad fz)) 0 0 (va_A (wX2 G ad f) sz) := by
  refine metP (Qf := fun A => Qi0 G A r (wX2 G ad fz)) cX2_put 3 (some .int) (by decide) rfl (Nat.le_of_ble_eq_true rfl) ?_
  intro p e s m below meth c A ls hC hr hlocks hin hE hA hsz hP hD hS hl
  generalize hargs : ([.ref (ad 0), .int x1, .int x2] : List Value).toArray = args at hC ⊢
  obtain ⟨hx, hb, hml, hown, hts⟩ := id hC
  have hT : va_K G.1 vwCl (tyL G) s := hE.1
  have hRet : ∀ (r9 : Int32) (f9 : Mem) (H : Heap) (locs : List Loc) (ls : Array Slot) (pc : Nat) (hK9 : (r9, f9) = (r, fz)) (hdg : decode cX2_put pc = .ok (.ireturn, 1)), va_P G.1 vwCl (wX2 G ad f9) H → va_D A (wX2 G ad f9) → va_S A s.heap H locs → W p l e ({ frames := 2, cells := 0, slots := 0, locals := 34 }) s m args below meth c H locs 0 0 (MQ below (Qi0 G A r (wX2 G ad fz)) args s 0 0 A) (F0 m pc ls [.int r9]) := by
    intro r9 f9 H locs ls pc hK9 hdg hP hD hS
    cases hK9
    exact W.iret hx hb hr (fun t ht hW => ⟨⟨r, (), rfl, rfl, by rw [ht]; exact hP, hD⟩, hS.F ht⟩) hS.2.2 hdg hlocks
  generalize MQ below (Qi0 G A r (wX2 G ad fz)) args s 0 0 A = Q at hRet ⊢
  have lk15 := hts (.fieldLink RX2 15 "FeatherShares$Sheet" "isNothing" "Z") (by decide +kernel)
  have inX2 : ∀ w ∈ u_ws RX2 TX2 4, w ∈ wsX2_put := by decide +kernel
  have lk23 := hts (.fieldLink RX2 23 "FeatherShares$Sheet" "size" "I") (by decide +kernel)
  have lk9 := hts (.fieldLink RX2 9 "FeatherShares$Sheet" "cells" "[I") (by decide +kernel)
  have lk19 := hts (.fieldLink RX2 19 "FeatherShares$Sheet" "lane" "I") (by decide +kernel)
  have hl : lv_has ls 3 [(0, .ref (ad 0)), (1, .int x1), (2, .int x2)] := hl
  have hK0 : (r, fz) = (r, fz) := rfl
  have hB56 : ∀ (f : Mem) (s0 : Int32) (s1 : Int32) (res : Int32 × Mem) (hf : p_X2_put_B56 f s0 s1 = some res) (hK : res = (r, fz)), ∀ (H : Heap) (locs : List Loc) (ls : Array Slot), va_P G.1 vwCl (wX2 G ad f) H → va_D A (wX2 G ad f) → va_S A s.heap H locs → lv_has ls 3 [] → W p l e ({ frames := 2, cells := 0, slots := 0, locals := 34 }) s m args below meth c H locs 0 0 Q (F0 m 56 ls [.int s0, .int s1, .ref (ad 1)]) := by
    intro f s0 s1 res hf hK H locs ls hP hD hS hl
    unfold p_X2_put_B56 at hf
    obtain ⟨hg, hf⟩ := gd_e hf
    obtain ⟨g56, eg56, hf⟩ := bnd_e hf
    refine va_iast (f := f 1) hx hb hT hP hD hS 1 0 rfl rfl (inb_e hg) dX2_put_56 (fun H locs hP hD hS => ?_)
    rw [← eg56] at hP hD
    have hP : va_P G.1 vwCl (wX2 G ad (mrow 1 (g56) f)) H := hP
    have hD : va_D A (wX2 G ad (mrow 1 (g56) f)) := hD
    refine lv_iconst (v := (nI 0)) hx hb dX2_put_57 (ic_0) ?_
    have hK9 := K0_of hf hK
    exact hRet (nI 0) (mrow 1 (g56) f) _ _ _ _ hK9 dX2_put_58 hP hD hS
  obtain ⟨res, hres, hK⟩ : ∃ res, p_X2_put f x1 x2 = some res ∧ res = (r, fz) := ⟨_, hf, rfl⟩
  clear hf
  have hf := hres
  clear hres
  unfold p_X2_put at hf
  refine lv_aload_n hx hb dX2_put_0 rfl (lv_at hl 0 rfl) ?_
  refine va_get (C := RX2) (T := TX2) (N := 4) (ci := 2) (v := .int (f 0 0)) hx hb hts inX2 hown hT hP 0 rfl rfl 1 (Nat.le_of_ble_eq_true rfl) lk15 (fun _ h => h) rfl dX2_put_1 ?_
  refine lv_if_eq (tgt := 9) hx hb dX2_put_4 (by decide) (fun hc => ?_) (fun hc => ?_)
  · have hf := if_t hf hc
    refine lv_iload_n hx hb dX2_put_9 rfl (lv_at hl 1 rfl) ?_
    refine lv_iconst (v := (nI 0)) hx hb dX2_put_10 (ic_0) ?_
    refine lv_aload_n hx hb dX2_put_11 rfl (lv_at hl 0 rfl) ?_
    refine va_get (C := RX2) (T := TX2) (N := 4) (ci := 2) (v := .int (f 0 2)) hx hb hts inX2 hown hT hP 0 rfl rfl 3 (Nat.le_of_ble_eq_true rfl) lk23 (fun _ h => h) rfl dX2_put_12 ?_
    refine lv_iconst (v := (nI 1)) hx hb dX2_put_15 (ic_1) ?_
    refine lv_isub hx hb dX2_put_16 ?_
    obtain ⟨r17, hc17, hf⟩ := bd_e hf
    refine cl_z_ro (Wd := (wX2 G ad f)) (Wc := ([] : va_W)) [] rfl (va_runSN (As := [.int x1, .int (nI 0), .int ((f 0 2) - (nI 1))]) (rest := []) hC (c_X6_isWithin l G x1 (nI 0) ((f 0 2) - (nI 1)) r17 hc17 _) ⟨va_cnB 3 hts gX2_put_X6_isWithin_n32 rfl rfl rfl (hE.2.2 (RX2, 32, yX6_isWithin, "FeatherShares") (List.mem_of_getElem? (i := 45) rfl)) (hts (.initialized RX6) (by decide +kernel)) (by decide +kernel) ⟨Nat.le_of_ble_eq_true rfl, Nat.le_of_ble_eq_true rfl⟩, hts (.static yX6_isWithin) (by decide +kernel), trivial⟩ ⟨Pc0_blind, fun U hU hW => Pc0_at (Wd := ([] : va_W)) hE (hP.subm [] rfl) (hD.sub [] (by decide) rfl) hU hW⟩ rfl rfl hl.1 rfl (lv_room (Nat.le_of_ble_eq_true rfl)) dX2_put_17 ⟨Nat.zero_le _, Nat.zero_le _⟩) hS hA hP hD (fun H locs hn17 hP hD hS => ?_)
    refine lv_if_ne (tgt := 25) hx hb dX2_put_20 (by decide) (fun hc => ?_) (fun hc => ?_)
    · have hf := if_f hf hc
      refine lv_aload_n hx hb dX2_put_25 rfl (lv_at hl 0 rfl) ?_
      refine va_get (C := RX2) (T := TX2) (N := 4) (ci := 2) (v := .ref (ad 1)) hx hb hts inX2 hown hT hP 0 rfl rfl 0 (Nat.le_of_ble_eq_true rfl) lk9 (fun _ h => h) rfl dX2_put_26 ?_
      refine lv_iload_n hx hb dX2_put_29 rfl (lv_at hl 1 rfl) ?_
      refine lv_aload_n hx hb dX2_put_30 rfl (lv_at hl 0 rfl) ?_
      refine va_get (C := RX2) (T := TX2) (N := 4) (ci := 2) (v := .int (f 0 1)) hx hb hts inX2 hown hT hP 0 rfl rfl 2 (Nat.le_of_ble_eq_true rfl) lk19 (fun _ h => h) rfl dX2_put_31 ?_
      refine lv_if_ne (tgt := 42) hx hb dX2_put_34 (by decide) (fun hc => ?_) (fun hc => ?_)
      · have hf := if_f hf hc
        refine lv_aload_n hx hb dX2_put_42 rfl (lv_at hl 0 rfl) ?_
        refine va_get (C := RX2) (T := TX2) (N := 4) (ci := 2) (v := .int (f 0 1)) hx hb hts inX2 hown hT hP 0 rfl rfl 2 (Nat.le_of_ble_eq_true rfl) lk19 (fun _ h => h) rfl dX2_put_43 ?_
        refine lv_iconst (v := (nI 1)) hx hb dX2_put_46 (ic_1) ?_
        refine lv_icmp_ne (tgt := 55) hx hb dX2_put_47 (by decide) (fun hc => ?_) (fun hc => ?_)
        · have hf := if_f hf hc
          refine lv_iload_n hx hb dX2_put_55 rfl (lv_at hl 2 rfl) ?_
          exact hB56 f x2 x1 _ hf hK _ _ _ hP hD hS (lv_sub hl [] rfl)
        · have hf := if_t hf hc
          refine lv_iload_n hx hb dX2_put_50 rfl (lv_at hl 2 rfl) ?_
          refine lv_i2s (v := (x2.toInt16.toInt32)) hx hb dX2_put_51 rfl ?_
          refine lv_goto (tgt := 56) hx hb dX2_put_52 (by decide) ?_
          exact hB56 f (x2.toInt16.toInt32) x1 _ hf hK _ _ _ hP hD hS (lv_sub hl [] rfl)
      · have hf := if_t hf hc
        refine lv_iload_n hx hb dX2_put_37 rfl (lv_at hl 2 rfl) ?_
        refine lv_i2b (v := (x2.toInt8.toInt32)) hx hb dX2_put_38 rfl ?_
        refine lv_goto (tgt := 56) hx hb dX2_put_39 (by decide) ?_
        exact hB56 f (x2.toInt8.toInt32) x1 _ hf hK _ _ _ hP hD hS (lv_sub hl [] rfl)
    · have hf := if_t hf hc
      refine lv_iconst (v := (nI 2)) hx hb dX2_put_23 (ic_2) ?_
      have hK9 := K0_of hf hK
      exact hRet (nI 2) f _ _ _ _ hK9 dX2_put_24 hP hD hS
  · have hf := if_f hf hc
    refine lv_iconst (v := (nI 1)) hx hb dX2_put_7 (ic_1) ?_
    have hK9 := K0_of hf hK
    exact hRet (nI 1) f _ _ _ _ hK9 dX2_put_8 hP hD hS
noncomputable def p_X2_faultOfTrade (f : Mem) (x1 : Int32) (x2 : Int32) : Option (Int32) :=
  if (f 0 0) = 0 then
    (if (f 0 1) = x1 then
       (Option.bind (p_X6_isWithin x2 (nI 0) ((f 0 2) - (nI 4))) <| fun r27 =>
        if r27 = 0 then
          (some (nI 2))
        else
          (some (nI 0)))
     else
       (some (nI 3)))
  else
    (some (nI 1))
set_option maxHeartbeats 4000000 in
set_option maxRecDepth 100000 in
theorem c_X2_faultOfTrade (l : Launch) (G : Gt) (ad : Nat → Nat) (f : Mem) (x1 : Int32) (x2 : Int32) (r : Int32) (hf : p_X2_faultOfTrade f x1 x2 = some r) (sz : Nat) : Met l yX2_faultOfTrade wsX2_faultOfTrade ({ frames := 2, cells := 0, slots := 0, locals := 34 }) (Pc0 G sz [.ref (ad 0), .int x1, .int x2] (wX2 G ad f)) (Qi0 G (va_A (wX2 G ad f) sz) r (wX2 G ad f)) 0 0 (va_A (wX2 G ad f) sz) := by
  refine metP (Qf := fun A => Qi0 G A r (wX2 G ad f)) cX2_faultOfTrade 3 (some .int) (by decide) rfl (Nat.le_of_ble_eq_true rfl) ?_
  intro p e s m below meth c A ls hC hr hlocks hin hE hA hsz hP hD hS hl
  generalize hargs : ([.ref (ad 0), .int x1, .int x2] : List Value).toArray = args at hC ⊢
  obtain ⟨hx, hb, hml, hown, hts⟩ := id hC
  have hT : va_K G.1 vwCl (tyL G) s := hE.1
  have hRet : ∀ (r9 : Int32) (H : Heap) (locs : List Loc) (ls : Array Slot) (pc : Nat) (hK9 : r9 = r) (hdg : decode cX2_faultOfTrade pc = .ok (.ireturn, 1)), va_P G.1 vwCl (wX2 G ad f) H → va_D A (wX2 G ad f) → va_S A s.heap H locs → W p l e ({ frames := 2, cells := 0, slots := 0, locals := 34 }) s m args below meth c H locs 0 0 (MQ below (Qi0 G A r (wX2 G ad f)) args s 0 0 A) (F0 m pc ls [.int r9]) := by
    intro r9 H locs ls pc hK9 hdg hP hD hS
    cases hK9
    exact W.iret hx hb hr (fun t ht hW => ⟨⟨r, (), rfl, rfl, by rw [ht]; exact hP, hD⟩, hS.F ht⟩) hS.2.2 hdg hlocks
  generalize MQ below (Qi0 G A r (wX2 G ad f)) args s 0 0 A = Q at hRet ⊢
  have lk15 := hts (.fieldLink RX2 15 "FeatherShares$Sheet" "isNothing" "Z") (by decide +kernel)
  have inX2 : ∀ w ∈ u_ws RX2 TX2 4, w ∈ wsX2_faultOfTrade := by decide +kernel
  have lk19 := hts (.fieldLink RX2 19 "FeatherShares$Sheet" "lane" "I") (by decide +kernel)
  have lk23 := hts (.fieldLink RX2 23 "FeatherShares$Sheet" "size" "I") (by decide +kernel)
  have hl : lv_has ls 3 [(0, .ref (ad 0)), (1, .int x1), (2, .int x2)] := hl
  have hK0 : r = r := rfl
  obtain ⟨res, hres, hK⟩ : ∃ res, p_X2_faultOfTrade f x1 x2 = some res ∧ res = r := ⟨_, hf, rfl⟩
  clear hf
  have hf := hres
  clear hres
  unfold p_X2_faultOfTrade at hf
  refine lv_aload_n hx hb dX2_faultOfTrade_0 rfl (lv_at hl 0 rfl) ?_
  refine va_get (C := RX2) (T := TX2) (N := 4) (ci := 2) (v := .int (f 0 0)) hx hb hts inX2 hown hT hP 0 rfl rfl 1 (Nat.le_of_ble_eq_true rfl) lk15 (fun _ h => h) rfl dX2_faultOfTrade_1 ?_
  refine lv_if_eq (tgt := 9) hx hb dX2_faultOfTrade_4 (by decide) (fun hc => ?_) (fun hc => ?_)
  · have hf := if_t hf hc
    refine lv_aload_n hx hb dX2_faultOfTrade_9 rfl (lv_at hl 0 rfl) ?_
    refine va_get (C := RX2) (T := TX2) (N := 4) (ci := 2) (v := .int (f 0 1)) hx hb hts inX2 hown hT hP 0 rfl rfl 2 (Nat.le_of_ble_eq_true rfl) lk19 (fun _ h => h) rfl dX2_faultOfTrade_10 ?_
    refine lv_iload_n hx hb dX2_faultOfTrade_13 rfl (lv_at hl 1 rfl) ?_
    refine lv_icmp_eq (tgt := 19) hx hb dX2_faultOfTrade_14 (by decide) (fun hc => ?_) (fun hc => ?_)
    · have hf := if_t hf hc
      refine lv_iload_n hx hb dX2_faultOfTrade_19 rfl (lv_at hl 2 rfl) ?_
      refine lv_iconst (v := (nI 0)) hx hb dX2_faultOfTrade_20 (ic_0) ?_
      refine lv_aload_n hx hb dX2_faultOfTrade_21 rfl (lv_at hl 0 rfl) ?_
      refine va_get (C := RX2) (T := TX2) (N := 4) (ci := 2) (v := .int (f 0 2)) hx hb hts inX2 hown hT hP 0 rfl rfl 3 (Nat.le_of_ble_eq_true rfl) lk23 (fun _ h => h) rfl dX2_faultOfTrade_22 ?_
      refine lv_iconst (v := (nI 4)) hx hb dX2_faultOfTrade_25 (ic_4) ?_
      refine lv_isub hx hb dX2_faultOfTrade_26 ?_
      obtain ⟨r27, hc27, hf⟩ := bd_e hf
      refine cl_z_ro (Wd := (wX2 G ad f)) (Wc := ([] : va_W)) [] rfl (va_runSN (As := [.int x2, .int (nI 0), .int ((f 0 2) - (nI 4))]) (rest := []) hC (c_X6_isWithin l G x2 (nI 0) ((f 0 2) - (nI 4)) r27 hc27 _) ⟨va_cnB 3 hts gX2_faultOfTrade_X6_isWithin_n32 rfl rfl rfl (hE.2.2 (RX2, 32, yX6_isWithin, "FeatherShares") (List.mem_of_getElem? (i := 45) rfl)) (hts (.initialized RX6) (by decide +kernel)) (by decide +kernel) ⟨Nat.le_of_ble_eq_true rfl, Nat.le_of_ble_eq_true rfl⟩, hts (.static yX6_isWithin) (by decide +kernel), trivial⟩ ⟨Pc0_blind, fun U hU hW => Pc0_at (Wd := ([] : va_W)) hE (hP.subm [] rfl) (hD.sub [] (by decide) rfl) hU hW⟩ rfl rfl hl.1 rfl (lv_room (Nat.le_of_ble_eq_true rfl)) dX2_faultOfTrade_27 ⟨Nat.zero_le _, Nat.zero_le _⟩) hS hA hP hD (fun H locs hn27 hP hD hS => ?_)
      refine lv_if_eq (tgt := 37) hx hb dX2_faultOfTrade_30 (by decide) (fun hc => ?_) (fun hc => ?_)
      · have hf := if_t hf hc
        refine lv_iconst (v := (nI 2)) hx hb dX2_faultOfTrade_37 (ic_2) ?_
        have hK9 := K0_of hf hK
        exact hRet (nI 2) _ _ _ _ hK9 dX2_faultOfTrade_38 hP hD hS
      · have hf := if_f hf hc
        refine lv_iconst (v := (nI 0)) hx hb dX2_faultOfTrade_33 (ic_0) ?_
        refine lv_goto (tgt := 38) hx hb dX2_faultOfTrade_34 (by decide) ?_
        have hK9 := K0_of hf hK
        exact hRet (nI 0) _ _ _ _ hK9 dX2_faultOfTrade_38 hP hD hS
    · have hf := if_f hf hc
      refine lv_iconst (v := (nI 3)) hx hb dX2_faultOfTrade_17 (ic_3) ?_
      have hK9 := K0_of hf hK
      exact hRet (nI 3) _ _ _ _ hK9 dX2_faultOfTrade_18 hP hD hS
  · have hf := if_f hf hc
    refine lv_iconst (v := (nI 1)) hx hb dX2_faultOfTrade_7 (ic_1) ?_
    have hK9 := K0_of hf hK
    exact hRet (nI 1) _ _ _ _ hK9 dX2_faultOfTrade_8 hP hD hS
noncomputable def p_X2_tradeOn (f : Mem) (fo2 : Mem) (x1 : Int32) : Option (Int32 × Mem) :=
  gd (inb x1 40) <|
  gd (inb (x1 + (nI 1)) 40) <|
  gd (inb (x1 + (nI 2)) 40) <|
  gd (inb (x1 + (nI 3)) 40) <|
  Option.bind (p_X0_tryTrade fo2 (f 1 x1.toNatClampNeg) (f 1 (x1 + (nI 1)).toNatClampNeg) (f 1 (x1 + (nI 2)).toNatClampNeg) (f 1 (x1 + (nI 3)).toNatClampNeg)) <| fun (r31, fo2_31) =>
  some (r31, fo2_31)
set_option maxHeartbeats 4000000 in
set_option maxRecDepth 100000 in
theorem c_X2_tradeOn (l : Launch) (G : Gt) (ad : Nat → Nat) (ao2 : Nat → Nat) (f : Mem) (fo2 : Mem) (x1 : Int32) (r : Int32) (fo2z : Mem) (hf : p_X2_tradeOn f fo2 x1 = some (r, fo2z)) (sz : Nat) : Met l yX2_tradeOn wsX2_tradeOn ({ frames := 5, cells := 0, slots := 0, locals := 107 }) (Pc0 G sz [.ref (ad 0), .int x1, .ref (ao2 0)] (wX2 G ad f ++ (wX0 G ao2 fo2))) (Qz0 G (va_A (wX2 G ad f ++ (wX0 G ao2 fo2)) sz) r (wX2 G ad f ++ (wX0 G ao2 fo2z))) 0 0 (va_A (wX2 G ad f ++ (wX0 G ao2 fo2)) sz) := by
  refine metP (Qf := fun A => Qz0 G A r (wX2 G ad f ++ (wX0 G ao2 fo2z))) cX2_tradeOn 3 (some .boolean) (by decide) rfl (Nat.le_of_ble_eq_true rfl) ?_
  intro p e s m below meth c A ls hC hr hlocks hin hE hA hsz hP hD hS hl
  generalize hargs : ([.ref (ad 0), .int x1, .ref (ao2 0)] : List Value).toArray = args at hC ⊢
  obtain ⟨hx, hb, hml, hown, hts⟩ := id hC
  have hT : va_K G.1 vwCl (tyL G) s := hE.1
  have hRet : ∀ (r9 : Int32) (fo29 : Mem) (H : Heap) (locs : List Loc) (ls : Array Slot) (pc : Nat) (hK9 : (r9, fo29) = (r, fo2z)) (hn9 : narrow .boolean (.int r9) = .int r9) (hdg : decode cX2_tradeOn pc = .ok (.ireturn, 1)), va_P G.1 vwCl (wX2 G ad f ++ (wX0 G ao2 fo29)) H → va_D A (wX2 G ad f ++ (wX0 G ao2 fo29)) → va_S A s.heap H locs → W p l e ({ frames := 5, cells := 0, slots := 0, locals := 107 }) s m args below meth c H locs 0 0 (MQ below (Qz0 G A r (wX2 G ad f ++ (wX0 G ao2 fo2z))) args s 0 0 A) (F0 m pc ls [.int r9]) := by
    intro r9 fo29 H locs ls pc hK9 hn9 hdg hP hD hS
    cases hK9
    exact W.zret hx hb hr hn9 (fun t ht hW => ⟨⟨r, (), rfl, ⟨rfl, hn9⟩, by rw [ht]; exact hP, hD⟩, hS.F ht⟩) hS.2.2 hdg hlocks
  generalize MQ below (Qz0 G A r (wX2 G ad f ++ (wX0 G ao2 fo2z))) args s 0 0 A = Q at hRet ⊢
  have lk9 := hts (.fieldLink RX2 9 "FeatherShares$Sheet" "cells" "[I") (by decide +kernel)
  have inX2 : ∀ w ∈ u_ws RX2 TX2 4, w ∈ wsX2_tradeOn := by decide +kernel
  have hl : lv_has ls 3 [(0, .ref (ad 0)), (1, .int x1), (2, .ref (ao2 0))] := hl
  have hK0 : (r, fo2z) = (r, fo2z) := rfl
  obtain ⟨res, hres, hK⟩ : ∃ res, p_X2_tradeOn f fo2 x1 = some res ∧ res = (r, fo2z) := ⟨_, hf, rfl⟩
  clear hf
  have hf := hres
  clear hres
  unfold p_X2_tradeOn at hf
  refine lv_aload_n hx hb dX2_tradeOn_0 rfl (lv_at hl 2 rfl) ?_
  refine lv_aload_n hx hb dX2_tradeOn_1 rfl (lv_at hl 0 rfl) ?_
  refine va_get (C := RX2) (T := TX2) (N := 4) (ci := 2) (v := .ref (ad 1)) hx hb hts inX2 hown hT hP 0 rfl rfl 0 (Nat.le_of_ble_eq_true rfl) lk9 (fun _ h => h) rfl dX2_tradeOn_2 ?_
  refine lv_iload_n hx hb dX2_tradeOn_5 rfl (lv_at hl 1 rfl) ?_
  obtain ⟨hg, hf⟩ := gd_e hf
  refine va_iald (f := f 1) hx hb hT hP 1 0 rfl rfl (inb_e hg) dX2_tradeOn_6 ?_
  refine lv_aload_n hx hb dX2_tradeOn_7 rfl (lv_at hl 0 rfl) ?_
  refine va_get (C := RX2) (T := TX2) (N := 4) (ci := 2) (v := .ref (ad 1)) hx hb hts inX2 hown hT hP 0 rfl rfl 0 (Nat.le_of_ble_eq_true rfl) lk9 (fun _ h => h) rfl dX2_tradeOn_8 ?_
  refine lv_iload_n hx hb dX2_tradeOn_11 rfl (lv_at hl 1 rfl) ?_
  refine lv_iconst (v := (nI 1)) hx hb dX2_tradeOn_12 (ic_1) ?_
  refine lv_iadd hx hb dX2_tradeOn_13 ?_
  obtain ⟨hg, hf⟩ := gd_e hf
  refine va_iald (f := f 1) hx hb hT hP 1 0 rfl rfl (inb_e hg) dX2_tradeOn_14 ?_
  refine lv_aload_n hx hb dX2_tradeOn_15 rfl (lv_at hl 0 rfl) ?_
  refine va_get (C := RX2) (T := TX2) (N := 4) (ci := 2) (v := .ref (ad 1)) hx hb hts inX2 hown hT hP 0 rfl rfl 0 (Nat.le_of_ble_eq_true rfl) lk9 (fun _ h => h) rfl dX2_tradeOn_16 ?_
  refine lv_iload_n hx hb dX2_tradeOn_19 rfl (lv_at hl 1 rfl) ?_
  refine lv_iconst (v := (nI 2)) hx hb dX2_tradeOn_20 (ic_2) ?_
  refine lv_iadd hx hb dX2_tradeOn_21 ?_
  obtain ⟨hg, hf⟩ := gd_e hf
  refine va_iald (f := f 1) hx hb hT hP 1 0 rfl rfl (inb_e hg) dX2_tradeOn_22 ?_
  refine lv_aload_n hx hb dX2_tradeOn_23 rfl (lv_at hl 0 rfl) ?_
  refine va_get (C := RX2) (T := TX2) (N := 4) (ci := 2) (v := .ref (ad 1)) hx hb hts inX2 hown hT hP 0 rfl rfl 0 (Nat.le_of_ble_eq_true rfl) lk9 (fun _ h => h) rfl dX2_tradeOn_24 ?_
  refine lv_iload_n hx hb dX2_tradeOn_27 rfl (lv_at hl 1 rfl) ?_
  refine lv_iconst (v := (nI 3)) hx hb dX2_tradeOn_28 (ic_3) ?_
  refine lv_iadd hx hb dX2_tradeOn_29 ?_
  obtain ⟨hg, hf⟩ := gd_e hf
  refine va_iald (f := f 1) hx hb hT hP 1 0 rfl rfl (inb_e hg) dX2_tradeOn_30 ?_
  obtain ⟨⟨r31, fo2_31⟩, hc31, hf⟩ := bd_e hf
  try dsimp only at hf
  refine cl_z_up (Wd := (wX2 G ad f ++ (wX0 G ao2 fo2))) (Wc := (wX0 G ao2 fo2)) (W' := (wX0 G ao2 fo2_31)) (W2 := (wX2 G ad f ++ (wX0 G ao2 fo2_31))) (Wr := (wX2 G ad f)) [2, 3, 4, 5, 6, 7, 8, 9, 10, 11, 12] [0, 1] rfl rfl rfl rfl rfl rfl (va_runVN (As := [.int (f 1 x1.toNatClampNeg), .int (f 1 (x1 + (nI 1)).toNatClampNeg), .int (f 1 (x1 + (nI 2)).toNatClampNeg), .int (f 1 (x1 + (nI 3)).toNatClampNeg)]) (rest := []) hC (c_X0_tryTrade l G ao2 fo2 (f 1 x1.toNatClampNeg) (f 1 (x1 + (nI 1)).toNatClampNeg) (f 1 (x1 + (nI 2)).toNatClampNeg) (f 1 (x1 + (nI 3)).toNatClampNeg) r31 fo2_31 hc31 _) ⟨va_cnB 4 hts gX2_tradeOn_X0_tryTrade_n36 rfl rfl rfl (hE.2.2 (RX2, 36, yX0_tryTrade, "FeatherShares") (List.mem_of_getElem? (i := 46) rfl)) (hts (.initialized RX0) (by decide +kernel)) (by decide +kernel) ⟨Nat.le_of_ble_eq_true rfl, Nat.le_of_ble_eq_true rfl⟩, hts (.instanceMethod yX0_tryTrade) (by decide +kernel), hts (.selects RX0 yX0_tryTrade yX0_tryTrade) (by decide +kernel)⟩ ⟨Pc0_blind, va_recv hT hP (q0 := 2) (ci := 0) rfl rfl, fun U hU hW => Pc0_at (Wd := (wX0 G ao2 fo2)) hE (hP.subm [2, 3, 4, 5, 6, 7, 8, 9, 10, 11, 12] rfl) (hD.sub [2, 3, 4, 5, 6, 7, 8, 9, 10, 11, 12] (by decide) rfl) hU hW⟩ rfl rfl hl.1 rfl (lv_room (Nat.le_of_ble_eq_true rfl)) dX2_tradeOn_31 ⟨Nat.zero_le _, Nat.zero_le _⟩) hS hA hP hD (fun H locs hn31 hP hD hS => ?_)
  have hK9 := K0_of hf hK
  exact hRet r31 fo2_31 _ _ _ _ hK9 hn31 dX2_tradeOn_34 hP hD hS
noncomputable def p_X3_add (f : Mem) (x1 : Int32) (x2 : Int32) (x3 : Int32) (x4 : Int32) : Option (Int32 × Mem) :=
  if (f 0 0) < (nI 6) then
    (gd (inb (f 0 0) 6) <|
     bnd (upd (f 1) (f 0 0).toNatClampNeg x1) <| fun g20 =>
     gd (inb (f 0 0) 6) <|
     bnd (upd (f 2) (f 0 0).toNatClampNeg x2) <| fun g30 =>
     gd (inb (f 0 0) 6) <|
     bnd (upd (f 3) (f 0 0).toNatClampNeg x3) <| fun g40 =>
     gd (inb (f 0 0) 6) <|
     bnd (upd (f 4) (f 0 0).toNatClampNeg x4) <| fun g51 =>
     some ((nI 1), (mset 0 0 ((f 0 0) + (nI 1)) (mrow 4 (g51) (mrow 3 (g40) (mrow 2 (g30) (mrow 1 (g20) f)))))))
  else
    (some ((nI 0), f))
set_option maxHeartbeats 4000000 in
set_option maxRecDepth 100000 in
theorem c_X3_add (l : Launch) (G : Gt) (ad : Nat → Nat) (f : Mem) (x1 : Int32) (x2 : Int32) (x3 : Int32) (x4 : Int32) (r : Int32) (fz : Mem) (hf : p_X3_add f x1 x2 x3 x4 = some (r, fz)) (sz : Nat) : Met l yX3_add wsX3_add ({ frames := 1, cells := 0, slots := 0, locals := 12 }) (Pc0 G sz [.ref (ad 0), .int x1, .int x2, .int x3, .int x4] (wX3 G ad f)) (Qz0 G (va_A (wX3 G ad f) sz) r (wX3 G ad fz)) 0 0 (va_A (wX3 G ad f) sz) := by
  refine metP (Qf := fun A => Qz0 G A r (wX3 G ad fz)) cX3_add 5 (some .boolean) (by decide) rfl (Nat.le_of_ble_eq_true rfl) ?_
  intro p e s m below meth c A ls hC hr hlocks hin hE hA hsz hP hD hS hl
  generalize hargs : ([.ref (ad 0), .int x1, .int x2, .int x3, .int x4] : List Value).toArray = args at hC ⊢
  obtain ⟨hx, hb, hml, hown, hts⟩ := id hC
  have hT : va_K G.1 vwCl (tyL G) s := hE.1
  have hRet : ∀ (r9 : Int32) (f9 : Mem) (H : Heap) (locs : List Loc) (ls : Array Slot) (pc : Nat) (hK9 : (r9, f9) = (r, fz)) (hn9 : narrow .boolean (.int r9) = .int r9) (hdg : decode cX3_add pc = .ok (.ireturn, 1)), va_P G.1 vwCl (wX3 G ad f9) H → va_D A (wX3 G ad f9) → va_S A s.heap H locs → W p l e ({ frames := 1, cells := 0, slots := 0, locals := 12 }) s m args below meth c H locs 0 0 (MQ below (Qz0 G A r (wX3 G ad fz)) args s 0 0 A) (F0 m pc ls [.int r9]) := by
    intro r9 f9 H locs ls pc hK9 hn9 hdg hP hD hS
    cases hK9
    exact W.zret hx hb hr hn9 (fun t ht hW => ⟨⟨r, (), rfl, ⟨rfl, hn9⟩, by rw [ht]; exact hP, hD⟩, hS.F ht⟩) hS.2.2 hdg hlocks
  generalize MQ below (Qz0 G A r (wX3 G ad fz)) args s 0 0 A = Q at hRet ⊢
  have lk9 := hts (.fieldLink RX3 9 "FeatherShares$Sightings" "size" "I") (by decide +kernel)
  have inX3 : ∀ w ∈ u_ws RX3 TX3 5, w ∈ wsX3_add := by decide +kernel
  have lk15 := hts (.fieldLink RX3 15 "FeatherShares$Sightings" "ofGoose" "[I") (by decide +kernel)
  have lk19 := hts (.fieldLink RX3 19 "FeatherShares$Sightings" "ofOwner" "[I") (by decide +kernel)
  have lk22 := hts (.fieldLink RX3 22 "FeatherShares$Sightings" "behindWeeks" "[I") (by decide +kernel)
  have lk25 := hts (.fieldLink RX3 25 "FeatherShares$Sightings" "feathersSeen" "[I") (by decide +kernel)
  have hl : lv_has ls 5 [(0, .ref (ad 0)), (1, .int x1), (2, .int x2), (3, .int x3), (4, .int x4)] := hl
  have hK0 : (r, fz) = (r, fz) := rfl
  obtain ⟨res, hres, hK⟩ : ∃ res, p_X3_add f x1 x2 x3 x4 = some res ∧ res = (r, fz) := ⟨_, hf, rfl⟩
  clear hf
  have hf := hres
  clear hres
  unfold p_X3_add at hf
  refine lv_aload_n hx hb dX3_add_0 rfl (lv_at hl 0 rfl) ?_
  refine va_get (C := RX3) (T := TX3) (N := 5) (ci := 3) (v := .int (f 0 0)) hx hb hts inX3 hown hT hP 0 rfl rfl 0 (Nat.le_of_ble_eq_true rfl) lk9 (fun _ h => h) rfl dX3_add_1 ?_
  refine lv_bipush (v := (nI 6)) hx hb dX3_add_4 (bi_6) ?_
  refine lv_icmp_lt (tgt := 11) hx hb dX3_add_6 (by decide) (fun hc => ?_) (fun hc => ?_)
  · have hf := if_t hf hc
    refine lv_aload_n hx hb dX3_add_11 rfl (lv_at hl 0 rfl) ?_
    refine va_get (C := RX3) (T := TX3) (N := 5) (ci := 3) (v := .ref (ad 1)) hx hb hts inX3 hown hT hP 0 rfl rfl 1 (Nat.le_of_ble_eq_true rfl) lk15 (fun _ h => h) rfl dX3_add_12 ?_
    refine lv_aload_n hx hb dX3_add_15 rfl (lv_at hl 0 rfl) ?_
    refine va_get (C := RX3) (T := TX3) (N := 5) (ci := 3) (v := .int (f 0 0)) hx hb hts inX3 hown hT hP 0 rfl rfl 0 (Nat.le_of_ble_eq_true rfl) lk9 (fun _ h => h) rfl dX3_add_16 ?_
    refine lv_iload_n hx hb dX3_add_19 rfl (lv_at hl 1 rfl) ?_
    obtain ⟨hg, hf⟩ := gd_e hf
    obtain ⟨g20, eg20, hf⟩ := bnd_e hf
    refine va_iast (f := f 1) hx hb hT hP hD hS 1 0 rfl rfl (inb_e hg) dX3_add_20 (fun H locs hP hD hS => ?_)
    rw [← eg20] at hP hD
    have hP : va_P G.1 vwCl (wX3 G ad (mrow 1 (g20) f)) H := hP
    have hD : va_D A (wX3 G ad (mrow 1 (g20) f)) := hD
    refine lv_aload_n hx hb dX3_add_21 rfl (lv_at hl 0 rfl) ?_
    refine va_get (C := RX3) (T := TX3) (N := 5) (ci := 3) (v := .ref (ad 2)) hx hb hts inX3 hown hT hP 0 rfl rfl 2 (Nat.le_of_ble_eq_true rfl) lk19 (fun _ h => h) rfl dX3_add_22 ?_
    refine lv_aload_n hx hb dX3_add_25 rfl (lv_at hl 0 rfl) ?_
    refine va_get (C := RX3) (T := TX3) (N := 5) (ci := 3) (v := .int (f 0 0)) hx hb hts inX3 hown hT hP 0 rfl rfl 0 (Nat.le_of_ble_eq_true rfl) lk9 (fun _ h => h) rfl dX3_add_26 ?_
    refine lv_iload_n hx hb dX3_add_29 rfl (lv_at hl 2 rfl) ?_
    obtain ⟨hg, hf⟩ := gd_e hf
    obtain ⟨g30, eg30, hf⟩ := bnd_e hf
    refine va_iast (f := f 2) hx hb hT hP hD hS 2 0 rfl rfl (inb_e hg) dX3_add_30 (fun H locs hP hD hS => ?_)
    rw [← eg30] at hP hD
    have hP : va_P G.1 vwCl (wX3 G ad (mrow 2 (g30) (mrow 1 (g20) f))) H := hP
    have hD : va_D A (wX3 G ad (mrow 2 (g30) (mrow 1 (g20) f))) := hD
    refine lv_aload_n hx hb dX3_add_31 rfl (lv_at hl 0 rfl) ?_
    refine va_get (C := RX3) (T := TX3) (N := 5) (ci := 3) (v := .ref (ad 3)) hx hb hts inX3 hown hT hP 0 rfl rfl 3 (Nat.le_of_ble_eq_true rfl) lk22 (fun _ h => h) rfl dX3_add_32 ?_
    refine lv_aload_n hx hb dX3_add_35 rfl (lv_at hl 0 rfl) ?_
    refine va_get (C := RX3) (T := TX3) (N := 5) (ci := 3) (v := .int (f 0 0)) hx hb hts inX3 hown hT hP 0 rfl rfl 0 (Nat.le_of_ble_eq_true rfl) lk9 (fun _ h => h) rfl dX3_add_36 ?_
    refine lv_iload_n hx hb dX3_add_39 rfl (lv_at hl 3 rfl) ?_
    obtain ⟨hg, hf⟩ := gd_e hf
    obtain ⟨g40, eg40, hf⟩ := bnd_e hf
    refine va_iast (f := f 3) hx hb hT hP hD hS 3 0 rfl rfl (inb_e hg) dX3_add_40 (fun H locs hP hD hS => ?_)
    rw [← eg40] at hP hD
    have hP : va_P G.1 vwCl (wX3 G ad (mrow 3 (g40) (mrow 2 (g30) (mrow 1 (g20) f)))) H := hP
    have hD : va_D A (wX3 G ad (mrow 3 (g40) (mrow 2 (g30) (mrow 1 (g20) f)))) := hD
    refine lv_aload_n hx hb dX3_add_41 rfl (lv_at hl 0 rfl) ?_
    refine va_get (C := RX3) (T := TX3) (N := 5) (ci := 3) (v := .ref (ad 4)) hx hb hts inX3 hown hT hP 0 rfl rfl 4 (Nat.le_of_ble_eq_true rfl) lk25 (fun _ h => h) rfl dX3_add_42 ?_
    refine lv_aload_n hx hb dX3_add_45 rfl (lv_at hl 0 rfl) ?_
    refine va_get (C := RX3) (T := TX3) (N := 5) (ci := 3) (v := .int (f 0 0)) hx hb hts inX3 hown hT hP 0 rfl rfl 0 (Nat.le_of_ble_eq_true rfl) lk9 (fun _ h => h) rfl dX3_add_46 ?_
    refine lv_iload hx hb dX3_add_49 (lv_at hl 4 rfl) ?_
    obtain ⟨hg, hf⟩ := gd_e hf
    obtain ⟨g51, eg51, hf⟩ := bnd_e hf
    refine va_iast (f := f 4) hx hb hT hP hD hS 4 0 rfl rfl (inb_e hg) dX3_add_51 (fun H locs hP hD hS => ?_)
    rw [← eg51] at hP hD
    have hP : va_P G.1 vwCl (wX3 G ad (mrow 4 (g51) (mrow 3 (g40) (mrow 2 (g30) (mrow 1 (g20) f))))) H := hP
    have hD : va_D A (wX3 G ad (mrow 4 (g51) (mrow 3 (g40) (mrow 2 (g30) (mrow 1 (g20) f))))) := hD
    refine lv_aload_n hx hb dX3_add_52 rfl (lv_at hl 0 rfl) ?_
    refine lv_dup hx hb dX3_add_53 rfl ?_
    refine va_get (C := RX3) (T := TX3) (N := 5) (ci := 3) (v := .int (f 0 0)) hx hb hts inX3 hown hT hP 0 rfl rfl 0 (Nat.le_of_ble_eq_true rfl) lk9 (fun _ h => h) rfl dX3_add_54 ?_
    refine lv_iconst (v := (nI 1)) hx hb dX3_add_57 (ic_1) ?_
    refine lv_iadd hx hb dX3_add_58 ?_
    refine va_put (C := RX3) (T := TX3) (N := 5) (ci := 3) (ty := .int) (v := .int ((f 0 0) + (nI 1))) hx hb hts inX3 tyX3 tyX3_ok nmX3 hown hT hP hD hS 0 rfl rfl 0 (Nat.le_of_ble_eq_true rfl) lk9 (fun _ h => h) rfl (by decide +kernel) rfl rfl (Nat.le_of_ble_eq_true rfl) dX3_add_59 (fun H locs hP hD hS => ?_)
    have hP : va_P G.1 vwCl (wX3 G ad (mset 0 0 ((f 0 0) + (nI 1)) (mrow 4 (g51) (mrow 3 (g40) (mrow 2 (g30) (mrow 1 (g20) f)))))) H := hP
    have hD : va_D A (wX3 G ad (mset 0 0 ((f 0 0) + (nI 1)) (mrow 4 (g51) (mrow 3 (g40) (mrow 2 (g30) (mrow 1 (g20) f)))))) := hD
    refine lv_iconst (v := (nI 1)) hx hb dX3_add_62 (ic_1) ?_
    have hK9 := K0_of hf hK
    exact hRet (nI 1) (mset 0 0 ((f 0 0) + (nI 1)) (mrow 4 (g51) (mrow 3 (g40) (mrow 2 (g30) (mrow 1 (g20) f))))) _ _ _ _ hK9 rfl dX3_add_63 hP hD hS
  · have hf := if_f hf hc
    refine lv_iconst (v := (nI 0)) hx hb dX3_add_9 (ic_0) ?_
    have hK9 := K0_of hf hK
    exact hRet (nI 0) f _ _ _ _ hK9 rfl dX3_add_10 hP hD hS
noncomputable def p_X3_agreeAt_L2 (f : Mem) (fo2 : Mem) (x1 : Int32) (x3 : Int32) : Option (Int32 ⊕ (Unit ⊕ Int32)) :=
  if (f 0 0) ≤ x3 then
    (some (Sum.inr (Sum.inl ())))
  else
    (gd (inb x3 6) <|
     if (f 3 x3.toNatClampNeg) = x1 then
       (gd (inb x3 6) <|
        gd (inb x3 6) <|
        Option.bind (p_X0_held fo2 (f 1 x3.toNatClampNeg) (f 2 x3.toNatClampNeg)) <| fun r33 =>
        gd (inb x3 6) <|
        if r33 = (f 4 x3.toNatClampNeg) then
          (some (Sum.inl (x3 + nI 1)))
        else
          (some (Sum.inr (Sum.inr (nI 0)))))
     else
       (some (Sum.inl (x3 + nI 1))))
noncomputable def p_X3_agreeAt (f : Mem) (fo2 : Mem) (x1 : Int32) : Option (Int32) :=
  Option.bind (lp (p_X3_agreeAt_L2 f fo2 x1) (nI 0)) <| Sum.elim (fun _ =>
    some (nI 1)) some
set_option maxHeartbeats 4000000 in
set_option maxRecDepth 100000 in
theorem c_X3_agreeAt (l : Launch) (G : Gt) (ad : Nat → Nat) (ao2 : Nat → Nat) (f : Mem) (fo2 : Mem) (x1 : Int32) (r : Int32) (hf : p_X3_agreeAt f fo2 x1 = some r) (sz : Nat) : Met l yX3_agreeAt wsX3_agreeAt ({ frames := 2, cells := 0, slots := 0, locals := 34 }) (Pc0 G sz [.ref (ad 0), .int x1, .ref (ao2 0)] (wX3 G ad f ++ (wX0 G ao2 fo2))) (Qz0 G (va_A (wX3 G ad f ++ (wX0 G ao2 fo2)) sz) r (wX3 G ad f ++ (wX0 G ao2 fo2))) 0 0 (va_A (wX3 G ad f ++ (wX0 G ao2 fo2)) sz) := by
  refine metP (Qf := fun A => Qz0 G A r (wX3 G ad f ++ (wX0 G ao2 fo2))) cX3_agreeAt 4 (some .boolean) (by decide) rfl (Nat.le_of_ble_eq_true rfl) ?_
  intro p e s m below meth c A ls hC hr hlocks hin hE hA hsz hP hD hS hl
  generalize hargs : ([.ref (ad 0), .int x1, .ref (ao2 0)] : List Value).toArray = args at hC ⊢
  obtain ⟨hx, hb, hml, hown, hts⟩ := id hC
  have hT : va_K G.1 vwCl (tyL G) s := hE.1
  have hRet : ∀ (r9 : Int32) (H : Heap) (locs : List Loc) (ls : Array Slot) (pc : Nat) (hK9 : r9 = r) (hn9 : narrow .boolean (.int r9) = .int r9) (hdg : decode cX3_agreeAt pc = .ok (.ireturn, 1)), va_P G.1 vwCl (wX3 G ad f ++ (wX0 G ao2 fo2)) H → va_D A (wX3 G ad f ++ (wX0 G ao2 fo2)) → va_S A s.heap H locs → W p l e ({ frames := 2, cells := 0, slots := 0, locals := 34 }) s m args below meth c H locs 0 0 (MQ below (Qz0 G A r (wX3 G ad f ++ (wX0 G ao2 fo2))) args s 0 0 A) (F0 m pc ls [.int r9]) := by
    intro r9 H locs ls pc hK9 hn9 hdg hP hD hS
    cases hK9
    exact W.zret hx hb hr hn9 (fun t ht hW => ⟨⟨r, (), rfl, ⟨rfl, hn9⟩, by rw [ht]; exact hP, hD⟩, hS.F ht⟩) hS.2.2 hdg hlocks
  generalize MQ below (Qz0 G A r (wX3 G ad f ++ (wX0 G ao2 fo2))) args s 0 0 A = Q at hRet ⊢
  have lk9 := hts (.fieldLink RX3 9 "FeatherShares$Sightings" "size" "I") (by decide +kernel)
  have inX3 : ∀ w ∈ u_ws RX3 TX3 5, w ∈ wsX3_agreeAt := by decide +kernel
  have lk22 := hts (.fieldLink RX3 22 "FeatherShares$Sightings" "behindWeeks" "[I") (by decide +kernel)
  have lk15 := hts (.fieldLink RX3 15 "FeatherShares$Sightings" "ofGoose" "[I") (by decide +kernel)
  have lk19 := hts (.fieldLink RX3 19 "FeatherShares$Sightings" "ofOwner" "[I") (by decide +kernel)
  have lk25 := hts (.fieldLink RX3 25 "FeatherShares$Sightings" "feathersSeen" "[I") (by decide +kernel)
  have hl : lv_has ls 4 [(0, .ref (ad 0)), (1, .int x1), (2, .ref (ao2 0))] := hl
  have hK0 : r = r := rfl
  obtain ⟨res, hres, hK⟩ : ∃ res, p_X3_agreeAt f fo2 x1 = some res ∧ res = r := ⟨_, hf, rfl⟩
  clear hf
  have hf := hres
  clear hres
  unfold p_X3_agreeAt at hf
  refine lv_iconst (v := (nI 0)) hx hb dX3_agreeAt_0 (ic_0) ?_
  refine lv_istore_n (lv' := [(3, .int (nI 0)), (0, .ref (ad 0)), (1, .int x1), (2, .ref (ao2 0))]) hx hb dX3_agreeAt_1 rfl hl (by decide) rfl (fun ls hl => ?_)
  obtain ⟨ze, hlp, hf⟩ := bd_e hf
  refine lp_W2 (p_X3_agreeAt_L2 f fo2 x1) (fun (x3 : Int32) => ∀ (H : Heap) (locs : List Loc) (ls : Array Slot), va_P G.1 vwCl (wX3 G ad f ++ (wX0 G ao2 fo2)) H → va_D A (wX3 G ad f ++ (wX0 G ao2 fo2)) → va_S A s.heap H locs → lv_has ls 4 [(0, .ref (ad 0)), (1, .int x1), (2, .ref (ao2 0)), (3, .int x3)] → W p l e ({ frames := 2, cells := 0, slots := 0, locals := 34 }) s m args below meth c H locs 0 0 Q (F0 m 2 ls [])) (fun z => match z with | () => ∀ (H : Heap) (locs : List Loc) (ls : Array Slot), va_P G.1 vwCl (wX3 G ad f ++ (wX0 G ao2 fo2)) H → va_D A (wX3 G ad f ++ (wX0 G ao2 fo2)) → va_S A s.heap H locs → lv_has ls 4 [] → W p l e ({ frames := 2, cells := 0, slots := 0, locals := 34 }) s m args below meth c H locs 0 0 Q (F0 m 53 ls [])) (fun z => z = r) ?_ hlp ?_ _ _ _ hP hD hS (lv_sub hl [1, 2, 3, 0] rfl)
  · clear hlp hf hK hP hD hS hl
    intro K2 hW2 hX2 hO2
    rintro x3 res hf hK H locs ls hP hD hS hl
    unfold p_X3_agreeAt_L2 at hf
    refine lv_iload_n hx hb dX3_agreeAt_2 rfl (lv_at hl 3 rfl) ?_
    refine lv_aload_n hx hb dX3_agreeAt_3 rfl (lv_at hl 0 rfl) ?_
    refine va_get (C := RX3) (T := TX3) (N := 5) (ci := 3) (v := .int (f 0 0)) hx hb hts inX3 hown hT hP 0 rfl rfl 0 (Nat.le_of_ble_eq_true rfl) lk9 (fun _ h => h) rfl dX3_agreeAt_4 ?_
    refine lv_icmp_ge (tgt := 53) hx hb dX3_agreeAt_7 (by decide) (fun hc => ?_) (fun hc => ?_)
    · have hf := if_t hf hc
      have hK9 := K_of hf hK
      have hK9 := hX2 _ hK9
      exact hK9 _ _ _ hP hD hS (lv_sub hl [] rfl)
    · have hf := if_f hf hc
      refine lv_aload_n hx hb dX3_agreeAt_10 rfl (lv_at hl 0 rfl) ?_
      refine va_get (C := RX3) (T := TX3) (N := 5) (ci := 3) (v := .ref (ad 3)) hx hb hts inX3 hown hT hP 0 rfl rfl 3 (Nat.le_of_ble_eq_true rfl) lk22 (fun _ h => h) rfl dX3_agreeAt_11 ?_
      refine lv_iload_n hx hb dX3_agreeAt_14 rfl (lv_at hl 3 rfl) ?_
      obtain ⟨hg, hf⟩ := gd_e hf
      refine va_iald (f := f 3) hx hb hT hP 3 0 rfl rfl (inb_e hg) dX3_agreeAt_15 ?_
      refine lv_iload_n hx hb dX3_agreeAt_16 rfl (lv_at hl 1 rfl) ?_
      refine lv_icmp_ne (tgt := 47) hx hb dX3_agreeAt_17 (by decide) (fun hc => ?_) (fun hc => ?_)
      · have hf := if_f hf hc
        refine lv_iinc (v := (x3 + nI 1)) (lv' := [(3, .int (x3 + nI 1)), (0, .ref (ad 0)), (1, .int x1), (2, .ref (ao2 0))]) hx hb dX3_agreeAt_47 hl (k := 3) rfl (ii_x 1 _) (by decide) rfl (fun ls hl => ?_)
        refine lv_goto (tgt := 2) hx hb dX3_agreeAt_50 (by decide) ?_
        have hK9 := K_of hf hK
        have hK9 := hW2 _ hK9
        exact hK9 _ _ _ hP hD hS (lv_sub hl [1, 2, 3, 0] rfl)
      · have hf := if_t hf hc
        refine lv_aload_n hx hb dX3_agreeAt_20 rfl (lv_at hl 2 rfl) ?_
        refine lv_aload_n hx hb dX3_agreeAt_21 rfl (lv_at hl 0 rfl) ?_
        refine va_get (C := RX3) (T := TX3) (N := 5) (ci := 3) (v := .ref (ad 1)) hx hb hts inX3 hown hT hP 0 rfl rfl 1 (Nat.le_of_ble_eq_true rfl) lk15 (fun _ h => h) rfl dX3_agreeAt_22 ?_
        refine lv_iload_n hx hb dX3_agreeAt_25 rfl (lv_at hl 3 rfl) ?_
        obtain ⟨hg, hf⟩ := gd_e hf
        refine va_iald (f := f 1) hx hb hT hP 1 0 rfl rfl (inb_e hg) dX3_agreeAt_26 ?_
        refine lv_aload_n hx hb dX3_agreeAt_27 rfl (lv_at hl 0 rfl) ?_
        refine va_get (C := RX3) (T := TX3) (N := 5) (ci := 3) (v := .ref (ad 2)) hx hb hts inX3 hown hT hP 0 rfl rfl 2 (Nat.le_of_ble_eq_true rfl) lk19 (fun _ h => h) rfl dX3_agreeAt_28 ?_
        refine lv_iload_n hx hb dX3_agreeAt_31 rfl (lv_at hl 3 rfl) ?_
        obtain ⟨hg, hf⟩ := gd_e hf
        refine va_iald (f := f 2) hx hb hT hP 2 0 rfl rfl (inb_e hg) dX3_agreeAt_32 ?_
        obtain ⟨r33, hc33, hf⟩ := bd_e hf
        refine cl_i_ro (Wd := (wX3 G ad f ++ (wX0 G ao2 fo2))) (Wc := (wX0 G ao2 fo2)) [5, 6, 7, 8, 9, 10, 11, 12, 13, 14, 15] rfl (va_runVN (As := [.int (f 1 x3.toNatClampNeg), .int (f 2 x3.toNatClampNeg)]) (rest := []) hC (c_X0_held l G ao2 fo2 (f 1 x3.toNatClampNeg) (f 2 x3.toNatClampNeg) r33 hc33 _) ⟨va_cnB 2 hts gX3_agreeAt_X0_held_n38 rfl rfl rfl (hE.2.2 (RX3, 38, yX0_held, "FeatherShares") (List.mem_of_getElem? (i := 48) rfl)) (hts (.initialized RX0) (by decide +kernel)) (by decide +kernel) ⟨Nat.le_of_ble_eq_true rfl, Nat.le_of_ble_eq_true rfl⟩, hts (.instanceMethod yX0_held) (by decide +kernel), hts (.selects RX0 yX0_held yX0_held) (by decide +kernel)⟩ ⟨Pc0_blind, va_recv hT hP (q0 := 5) (ci := 0) rfl rfl, fun U hU hW => Pc0_at (Wd := (wX0 G ao2 fo2)) hE (hP.subm [5, 6, 7, 8, 9, 10, 11, 12, 13, 14, 15] rfl) (hD.sub [5, 6, 7, 8, 9, 10, 11, 12, 13, 14, 15] (by decide) rfl) hU hW⟩ rfl rfl hl.1 rfl (lv_room (Nat.le_of_ble_eq_true rfl)) dX3_agreeAt_33 ⟨Nat.zero_le _, Nat.zero_le _⟩) hS hA hP hD (fun H locs hP hD hS => ?_)
        refine lv_aload_n hx hb dX3_agreeAt_36 rfl (lv_at hl 0 rfl) ?_
        refine va_get (C := RX3) (T := TX3) (N := 5) (ci := 3) (v := .ref (ad 4)) hx hb hts inX3 hown hT hP 0 rfl rfl 4 (Nat.le_of_ble_eq_true rfl) lk25 (fun _ h => h) rfl dX3_agreeAt_37 ?_
        refine lv_iload_n hx hb dX3_agreeAt_40 rfl (lv_at hl 3 rfl) ?_
        obtain ⟨hg, hf⟩ := gd_e hf
        refine va_iald (f := f 4) hx hb hT hP 4 0 rfl rfl (inb_e hg) dX3_agreeAt_41 ?_
        refine lv_icmp_eq (tgt := 47) hx hb dX3_agreeAt_42 (by decide) (fun hc => ?_) (fun hc => ?_)
        · have hf := if_t hf hc
          refine lv_iinc (v := (x3 + nI 1)) (lv' := [(3, .int (x3 + nI 1)), (0, .ref (ad 0)), (1, .int x1), (2, .ref (ao2 0))]) hx hb dX3_agreeAt_47 hl (k := 3) rfl (ii_x 1 _) (by decide) rfl (fun ls hl => ?_)
          refine lv_goto (tgt := 2) hx hb dX3_agreeAt_50 (by decide) ?_
          have hK9 := K_of hf hK
          have hK9 := hW2 _ hK9
          exact hK9 _ _ _ hP hD hS (lv_sub hl [1, 2, 3, 0] rfl)
        · have hf := if_f hf hc
          refine lv_iconst (v := (nI 0)) hx hb dX3_agreeAt_45 (ic_0) ?_
          have hK9 := K_of hf hK
          have hK9 := hO2 _ hK9
          exact hRet (nI 0) _ _ _ _ hK9 rfl dX3_agreeAt_46 hP hD hS
  · rcases ze with _u | zo
    · try simp only [Sum.elim_inl] at hf
      try dsimp only at hf
      show ∀ (H : Heap) (locs : List Loc) (ls : Array Slot), va_P G.1 vwCl (wX3 G ad f ++ (wX0 G ao2 fo2)) H → va_D A (wX3 G ad f ++ (wX0 G ao2 fo2)) → va_S A s.heap H locs → lv_has ls 4 [] → W p l e ({ frames := 2, cells := 0, slots := 0, locals := 34 }) s m args below meth c H locs 0 0 Q (F0 m 53 ls [])
      intro H locs ls hP hD hS hl
      refine lv_iconst (v := (nI 1)) hx hb dX3_agreeAt_53 (ic_1) ?_
      have hK9 := K0_of hf hK
      exact hRet (nI 1) _ _ _ _ hK9 rfl dX3_agreeAt_54 hP hD hS
    · have hK9 := K0_of (show some zo = some _ from hf) hK
      exact hK9
noncomputable def p_X3_agreeWith_L2 (f : Mem) (z : Int32 × Mem) : Option ((Int32 × Mem) ⊕ (Mem ⊕ (Int32 × Mem))) :=
  match z with
  | (x2, fo1_) =>
    if (nI 20) < x2 then
      (some (Sum.inr (Sum.inl fo1_)))
    else
      (Option.bind (p_X3_agreeAt f fo1_ x2) <| fun r11 =>
       if r11 = 0 then
         (some (Sum.inr (Sum.inr ((nI 0), fo1_))))
       else
         (Option.bind (p_X0_passWeek fo1_) <| fun (r20, fo1_20) =>
          some (Sum.inl ((x2 + nI 1), fo1_20))))
noncomputable def p_X3_agreeWith (f : Mem) (fo1 : Mem) : Option (Int32 × Mem) :=
  Option.bind (lp (p_X3_agreeWith_L2 f) ((nI 0), fo1)) <| Sum.elim (fun fo1_2 =>
    some ((nI 1), fo1_2)) some
set_option maxHeartbeats 4000000 in
set_option maxRecDepth 100000 in
theorem c_X3_agreeWith (l : Launch) (G : Gt) (ad : Nat → Nat) (ao1 : Nat → Nat) (f : Mem) (fo1 : Mem) (r : Int32) (fo1z : Mem) (hf : p_X3_agreeWith f fo1 = some (r, fo1z)) (sz : Nat) : Met l yX3_agreeWith wsX3_agreeWith ({ frames := 4, cells := 0, slots := 0, locals := 110 }) (Pc0 G sz [.ref (ad 0), .ref (ao1 0)] (wX3 G ad f ++ (wX0 G ao1 fo1))) (Qz0 G (va_A (wX3 G ad f ++ (wX0 G ao1 fo1)) sz) r (wX3 G ad f ++ (wX0 G ao1 fo1z))) 0 0 (va_A (wX3 G ad f ++ (wX0 G ao1 fo1)) sz) := by
  refine metP (Qf := fun A => Qz0 G A r (wX3 G ad f ++ (wX0 G ao1 fo1z))) cX3_agreeWith 3 (some .boolean) (by decide) rfl (Nat.le_of_ble_eq_true rfl) ?_
  intro p e s m below meth c A ls hC hr hlocks hin hE hA hsz hP hD hS hl
  generalize hargs : ([.ref (ad 0), .ref (ao1 0)] : List Value).toArray = args at hC ⊢
  obtain ⟨hx, hb, hml, hown, hts⟩ := id hC
  have hT : va_K G.1 vwCl (tyL G) s := hE.1
  have hRet : ∀ (r9 : Int32) (fo19 : Mem) (H : Heap) (locs : List Loc) (ls : Array Slot) (pc : Nat) (hK9 : (r9, fo19) = (r, fo1z)) (hn9 : narrow .boolean (.int r9) = .int r9) (hdg : decode cX3_agreeWith pc = .ok (.ireturn, 1)), va_P G.1 vwCl (wX3 G ad f ++ (wX0 G ao1 fo19)) H → va_D A (wX3 G ad f ++ (wX0 G ao1 fo19)) → va_S A s.heap H locs → W p l e ({ frames := 4, cells := 0, slots := 0, locals := 110 }) s m args below meth c H locs 0 0 (MQ below (Qz0 G A r (wX3 G ad f ++ (wX0 G ao1 fo1z))) args s 0 0 A) (F0 m pc ls [.int r9]) := by
    intro r9 fo19 H locs ls pc hK9 hn9 hdg hP hD hS
    cases hK9
    exact W.zret hx hb hr hn9 (fun t ht hW => ⟨⟨r, (), rfl, ⟨rfl, hn9⟩, by rw [ht]; exact hP, hD⟩, hS.F ht⟩) hS.2.2 hdg hlocks
  generalize MQ below (Qz0 G A r (wX3 G ad f ++ (wX0 G ao1 fo1z))) args s 0 0 A = Q at hRet ⊢
  have hl : lv_has ls 3 [(0, .ref (ad 0)), (1, .ref (ao1 0))] := hl
  have hK0 : (r, fo1z) = (r, fo1z) := rfl
  obtain ⟨res, hres, hK⟩ : ∃ res, p_X3_agreeWith f fo1 = some res ∧ res = (r, fo1z) := ⟨_, hf, rfl⟩
  clear hf
  have hf := hres
  clear hres
  unfold p_X3_agreeWith at hf
  refine lv_iconst (v := (nI 0)) hx hb dX3_agreeWith_0 (ic_0) ?_
  refine lv_istore_n (lv' := [(2, .int (nI 0)), (0, .ref (ad 0)), (1, .ref (ao1 0))]) hx hb dX3_agreeWith_1 rfl hl (by decide) rfl (fun ls hl => ?_)
  obtain ⟨ze, hlp, hf⟩ := bd_e hf
  refine lp_W2 (p_X3_agreeWith_L2 f) (fun z => match z with | (x2, fo1_) => ∀ (H : Heap) (locs : List Loc) (ls : Array Slot), va_P G.1 vwCl (wX3 G ad f ++ (wX0 G ao1 fo1_)) H → va_D A (wX3 G ad f ++ (wX0 G ao1 fo1_)) → va_S A s.heap H locs → lv_has ls 3 [(0, .ref (ad 0)), (1, .ref (ao1 0)), (2, .int x2)] → W p l e ({ frames := 4, cells := 0, slots := 0, locals := 110 }) s m args below meth c H locs 0 0 Q (F0 m 2 ls [])) (fun (fo1_2 : Mem) => ∀ (H : Heap) (locs : List Loc) (ls : Array Slot), va_P G.1 vwCl (wX3 G ad f ++ (wX0 G ao1 fo1_2)) H → va_D A (wX3 G ad f ++ (wX0 G ao1 fo1_2)) → va_S A s.heap H locs → lv_has ls 3 [] → W p l e ({ frames := 4, cells := 0, slots := 0, locals := 110 }) s m args below meth c H locs 0 0 Q (F0 m 30 ls [])) (fun z => z = (r, fo1z)) ?_ hlp ?_ _ _ _ hP hD hS (lv_sub hl [1, 2, 0] rfl)
  · clear hlp hf hK hP hD hS hl
    intro K2 hW2 hX2 hO2
    rintro ⟨x2, fo1_⟩ res hf hK H locs ls hP hD hS hl
    unfold p_X3_agreeWith_L2 at hf
    dsimp only at hf
    refine lv_iload_n hx hb dX3_agreeWith_2 rfl (lv_at hl 2 rfl) ?_
    refine lv_bipush (v := (nI 20)) hx hb dX3_agreeWith_3 (bi_20) ?_
    refine lv_icmp_gt (tgt := 30) hx hb dX3_agreeWith_5 (by decide) (fun hc => ?_) (fun hc => ?_)
    · have hf := if_t hf hc
      have hK9 := K_of hf hK
      have hK9 := hX2 _ hK9
      exact hK9 _ _ _ hP hD hS (lv_sub hl [] rfl)
    · have hf := if_f hf hc
      refine lv_aload_n hx hb dX3_agreeWith_8 rfl (lv_at hl 0 rfl) ?_
      refine lv_iload_n hx hb dX3_agreeWith_9 rfl (lv_at hl 2 rfl) ?_
      refine lv_aload_n hx hb dX3_agreeWith_10 rfl (lv_at hl 1 rfl) ?_
      obtain ⟨r11, hc11, hf⟩ := bd_e hf
      refine cl_z_same (Wd := (wX3 G ad f ++ (wX0 G ao1 fo1_))) (W' := (wX3 G ad f ++ (wX0 G ao1 fo1_))) (va_runV (As := [.int x2, .ref (ao1 0)]) (rest := []) hC (c_X3_agreeAt l G ad ao1 f fo1_ x2 r11 hc11 _) (cwV 2 hts gX3_agreeWith_X3_agreeAt rfl rfl rfl (by decide +kernel) ⟨Nat.le_of_ble_eq_true rfl, Nat.le_of_ble_eq_true rfl⟩) ⟨Pc0_blind, va_recv hT hP (q0 := 0) (ci := 3) rfl rfl, fun U hU hW => Pc0_at hE hP hD hU hW⟩ rfl rfl hl.1 rfl (lv_room (Nat.le_of_ble_eq_true rfl)) dX3_agreeWith_11 ⟨Nat.zero_le _, Nat.zero_le _⟩) hS hA hD (fun H locs hn11 hP hD hS => ?_)
      refine lv_if_ne (tgt := 19) hx hb dX3_agreeWith_14 (by decide) (fun hc => ?_) (fun hc => ?_)
      · have hf := if_f hf hc
        refine lv_aload_n hx hb dX3_agreeWith_19 rfl (lv_at hl 1 rfl) ?_
        obtain ⟨⟨r20, fo1_20⟩, hc20, hf⟩ := bd_e hf
        try dsimp only at hf
        refine cl_i_up (Wd := (wX3 G ad f ++ (wX0 G ao1 fo1_))) (Wc := (wX0 G ao1 fo1_)) (W' := (wX0 G ao1 fo1_20)) (W2 := (wX3 G ad f ++ (wX0 G ao1 fo1_20))) (Wr := (wX3 G ad f)) [5, 6, 7, 8, 9, 10, 11, 12, 13, 14, 15] [0, 1, 2, 3, 4] rfl rfl rfl rfl rfl rfl (va_runVN (As := []) (rest := []) hC (c_X0_passWeek l G ao1 fo1_ r20 fo1_20 hc20 _) ⟨va_cnB 0 hts gX3_agreeWith_X0_passWeek_n32 rfl rfl rfl (hE.2.2 (RX3, 32, yX0_passWeek, "FeatherShares") (List.mem_of_getElem? (i := 47) rfl)) (hts (.initialized RX0) (by decide +kernel)) (by decide +kernel) ⟨Nat.le_of_ble_eq_true rfl, Nat.le_of_ble_eq_true rfl⟩, hts (.instanceMethod yX0_passWeek) (by decide +kernel), hts (.selects RX0 yX0_passWeek yX0_passWeek) (by decide +kernel)⟩ ⟨Pc0_blind, va_recv hT hP (q0 := 5) (ci := 0) rfl rfl, fun U hU hW => Pc0_at (Wd := (wX0 G ao1 fo1_)) hE (hP.subm [5, 6, 7, 8, 9, 10, 11, 12, 13, 14, 15] rfl) (hD.sub [5, 6, 7, 8, 9, 10, 11, 12, 13, 14, 15] (by decide) rfl) hU hW⟩ rfl rfl hl.1 rfl (lv_room (Nat.le_of_ble_eq_true rfl)) dX3_agreeWith_20 ⟨Nat.zero_le _, Nat.zero_le _⟩) hS hA hP hD (fun H locs hP hD hS => ?_)
        refine lv_pop hx hb dX3_agreeWith_23 rfl ?_
        refine lv_iinc (v := (x2 + nI 1)) (lv' := [(2, .int (x2 + nI 1)), (0, .ref (ad 0)), (1, .ref (ao1 0))]) hx hb dX3_agreeWith_24 hl (k := 2) rfl (ii_x 1 _) (by decide) rfl (fun ls hl => ?_)
        refine lv_goto (tgt := 2) hx hb dX3_agreeWith_27 (by decide) ?_
        have hK9 := K_of hf hK
        have hK9 := hW2 _ hK9
        exact hK9 _ _ _ hP hD hS (lv_sub hl [1, 2, 0] rfl)
      · have hf := if_t hf hc
        refine lv_iconst (v := (nI 0)) hx hb dX3_agreeWith_17 (ic_0) ?_
        have hK9 := K_of hf hK
        have hK9 := hO2 _ hK9
        exact hRet (nI 0) fo1_ _ _ _ _ hK9 rfl dX3_agreeWith_18 hP hD hS
  · rcases ze with fo1_2 | zo
    · try simp only [Sum.elim_inl] at hf
      try dsimp only at hf
      show ∀ (H : Heap) (locs : List Loc) (ls : Array Slot), va_P G.1 vwCl (wX3 G ad f ++ (wX0 G ao1 fo1_2)) H → va_D A (wX3 G ad f ++ (wX0 G ao1 fo1_2)) → va_S A s.heap H locs → lv_has ls 3 [] → W p l e ({ frames := 4, cells := 0, slots := 0, locals := 110 }) s m args below meth c H locs 0 0 Q (F0 m 30 ls [])
      intro H locs ls hP hD hS hl
      refine lv_iconst (v := (nI 1)) hx hb dX3_agreeWith_30 (ic_1) ?_
      have hK9 := K0_of hf hK
      exact hRet (nI 1) fo1_2 _ _ _ _ hK9 rfl dX3_agreeWith_31 hP hD hS
    · have hK9 := K0_of (show some zo = some _ from hf) hK
      exact hK9
noncomputable def p_X4_append (f : Mem) (x1 : Int32) : Option (Int32 × Mem) :=
  if (f 0 0) < (nI 160) then
    (gd (inb (f 0 0) 160) <|
     bnd (upd (f 1) (f 0 0).toNatClampNeg x1) <| fun g21 =>
     some ((nI 1), (mset 0 0 ((f 0 0) + (nI 1)) (mrow 1 (g21) f))))
  else
    (some ((nI 0), f))
set_option maxHeartbeats 4000000 in
set_option maxRecDepth 100000 in
theorem c_X4_append (l : Launch) (G : Gt) (ad : Nat → Nat) (f : Mem) (x1 : Int32) (r : Int32) (fz : Mem) (hf : p_X4_append f x1 = some (r, fz)) (sz : Nat) : Met l yX4_append wsX4_append ({ frames := 1, cells := 0, slots := 0, locals := 12 }) (Pc0 G sz [.ref (ad 0), .int x1] (wX4 G ad f)) (Qz0 G (va_A (wX4 G ad f) sz) r (wX4 G ad fz)) 0 0 (va_A (wX4 G ad f) sz) := by
  refine metP (Qf := fun A => Qz0 G A r (wX4 G ad fz)) cX4_append 2 (some .boolean) (by decide) rfl (Nat.le_of_ble_eq_true rfl) ?_
  intro p e s m below meth c A ls hC hr hlocks hin hE hA hsz hP hD hS hl
  generalize hargs : ([.ref (ad 0), .int x1] : List Value).toArray = args at hC ⊢
  obtain ⟨hx, hb, hml, hown, hts⟩ := id hC
  have hT : va_K G.1 vwCl (tyL G) s := hE.1
  have hRet : ∀ (r9 : Int32) (f9 : Mem) (H : Heap) (locs : List Loc) (ls : Array Slot) (pc : Nat) (hK9 : (r9, f9) = (r, fz)) (hn9 : narrow .boolean (.int r9) = .int r9) (hdg : decode cX4_append pc = .ok (.ireturn, 1)), va_P G.1 vwCl (wX4 G ad f9) H → va_D A (wX4 G ad f9) → va_S A s.heap H locs → W p l e ({ frames := 1, cells := 0, slots := 0, locals := 12 }) s m args below meth c H locs 0 0 (MQ below (Qz0 G A r (wX4 G ad fz)) args s 0 0 A) (F0 m pc ls [.int r9]) := by
    intro r9 f9 H locs ls pc hK9 hn9 hdg hP hD hS
    cases hK9
    exact W.zret hx hb hr hn9 (fun t ht hW => ⟨⟨r, (), rfl, ⟨rfl, hn9⟩, by rw [ht]; exact hP, hD⟩, hS.F ht⟩) hS.2.2 hdg hlocks
  generalize MQ below (Qz0 G A r (wX4 G ad fz)) args s 0 0 A = Q at hRet ⊢
  have lk15 := hts (.fieldLink RX4 15 "FeatherShares$Tape" "length" "I") (by decide +kernel)
  have inX4 : ∀ w ∈ u_ws RX4 TX4 6, w ∈ wsX4_append := by decide +kernel
  have lk9 := hts (.fieldLink RX4 9 "FeatherShares$Tape" "bytes" "[I") (by decide +kernel)
  have hl : lv_has ls 2 [(0, .ref (ad 0)), (1, .int x1)] := hl
  have hK0 : (r, fz) = (r, fz) := rfl
  obtain ⟨res, hres, hK⟩ : ∃ res, p_X4_append f x1 = some res ∧ res = (r, fz) := ⟨_, hf, rfl⟩
  clear hf
  have hf := hres
  clear hres
  unfold p_X4_append at hf
  refine lv_aload_n hx hb dX4_append_0 rfl (lv_at hl 0 rfl) ?_
  refine va_get (C := RX4) (T := TX4) (N := 6) (ci := 4) (v := .int (f 0 0)) hx hb hts inX4 hown hT hP 0 rfl rfl 1 (Nat.le_of_ble_eq_true rfl) lk15 (fun _ h => h) rfl dX4_append_1 ?_
  refine lv_sipush (v := (nI 160)) hx hb dX4_append_4 (si_160) ?_
  refine lv_icmp_lt (tgt := 12) hx hb dX4_append_7 (by decide) (fun hc => ?_) (fun hc => ?_)
  · have hf := if_t hf hc
    refine lv_aload_n hx hb dX4_append_12 rfl (lv_at hl 0 rfl) ?_
    refine va_get (C := RX4) (T := TX4) (N := 6) (ci := 4) (v := .ref (ad 1)) hx hb hts inX4 hown hT hP 0 rfl rfl 0 (Nat.le_of_ble_eq_true rfl) lk9 (fun _ h => h) rfl dX4_append_13 ?_
    refine lv_aload_n hx hb dX4_append_16 rfl (lv_at hl 0 rfl) ?_
    refine va_get (C := RX4) (T := TX4) (N := 6) (ci := 4) (v := .int (f 0 0)) hx hb hts inX4 hown hT hP 0 rfl rfl 1 (Nat.le_of_ble_eq_true rfl) lk15 (fun _ h => h) rfl dX4_append_17 ?_
    refine lv_iload_n hx hb dX4_append_20 rfl (lv_at hl 1 rfl) ?_
    obtain ⟨hg, hf⟩ := gd_e hf
    obtain ⟨g21, eg21, hf⟩ := bnd_e hf
    refine va_iast (f := f 1) hx hb hT hP hD hS 1 0 rfl rfl (inb_e hg) dX4_append_21 (fun H locs hP hD hS => ?_)
    rw [← eg21] at hP hD
    have hP : va_P G.1 vwCl (wX4 G ad (mrow 1 (g21) f)) H := hP
    have hD : va_D A (wX4 G ad (mrow 1 (g21) f)) := hD
    refine lv_aload_n hx hb dX4_append_22 rfl (lv_at hl 0 rfl) ?_
    refine lv_dup hx hb dX4_append_23 rfl ?_
    refine va_get (C := RX4) (T := TX4) (N := 6) (ci := 4) (v := .int (f 0 0)) hx hb hts inX4 hown hT hP 0 rfl rfl 1 (Nat.le_of_ble_eq_true rfl) lk15 (fun _ h => h) rfl dX4_append_24 ?_
    refine lv_iconst (v := (nI 1)) hx hb dX4_append_27 (ic_1) ?_
    refine lv_iadd hx hb dX4_append_28 ?_
    refine va_put (C := RX4) (T := TX4) (N := 6) (ci := 4) (ty := .int) (v := .int ((f 0 0) + (nI 1))) hx hb hts inX4 tyX4 tyX4_ok nmX4 hown hT hP hD hS 0 rfl rfl 1 (Nat.le_of_ble_eq_true rfl) lk15 (fun _ h => h) rfl (by decide +kernel) rfl rfl (Nat.le_of_ble_eq_true rfl) dX4_append_29 (fun H locs hP hD hS => ?_)
    have hP : va_P G.1 vwCl (wX4 G ad (mset 0 0 ((f 0 0) + (nI 1)) (mrow 1 (g21) f))) H := hP
    have hD : va_D A (wX4 G ad (mset 0 0 ((f 0 0) + (nI 1)) (mrow 1 (g21) f))) := hD
    refine lv_iconst (v := (nI 1)) hx hb dX4_append_32 (ic_1) ?_
    have hK9 := K0_of hf hK
    exact hRet (nI 1) (mset 0 0 ((f 0 0) + (nI 1)) (mrow 1 (g21) f)) _ _ _ _ hK9 rfl dX4_append_33 hP hD hS
  · have hf := if_f hf hc
    refine lv_iconst (v := (nI 0)) hx hb dX4_append_10 (ic_0) ?_
    have hK9 := K0_of hf hK
    exact hRet (nI 0) f _ _ _ _ hK9 rfl dX4_append_11 hP hD hS
noncomputable def p_X4_rewind (f : Mem) : Option (Mem) :=
  some (mset 0 3 (nI 0) (mset 0 2 (nI 0) (mset 0 1 (nI 0) f)))
set_option maxHeartbeats 4000000 in
set_option maxRecDepth 100000 in
theorem c_X4_rewind (l : Launch) (G : Gt) (ad : Nat → Nat) (f : Mem) (fz : Mem) (hf : p_X4_rewind f = some fz) (sz : Nat) : Met l yX4_rewind wsX4_rewind ({ frames := 1, cells := 0, slots := 0, locals := 12 }) (Pc0 G sz [.ref (ad 0)] (wX4 G ad f)) (Qv0 G (va_A (wX4 G ad f) sz) (wX4 G ad fz)) 0 0 (va_A (wX4 G ad f) sz) := by
  refine metP (Qf := fun A => Qv0 G A (wX4 G ad fz)) cX4_rewind 1 (none) (by decide) rfl (Nat.le_of_ble_eq_true rfl) ?_
  intro p e s m below meth c A ls hC hr hlocks hin hE hA hsz hP hD hS hl
  generalize hargs : ([.ref (ad 0)] : List Value).toArray = args at hC ⊢
  obtain ⟨hx, hb, hml, hown, hts⟩ := id hC
  have hT : va_K G.1 vwCl (tyL G) s := hE.1
  have hRet : ∀ (f9 : Mem) (H : Heap) (locs : List Loc) (ls : Array Slot) (pc : Nat) (hK9 : f9 = fz) (hdg : decode cX4_rewind pc = .ok (.return_, 1)), va_P G.1 vwCl (wX4 G ad f9) H → va_D A (wX4 G ad f9) → va_S A s.heap H locs → W p l e ({ frames := 1, cells := 0, slots := 0, locals := 12 }) s m args below meth c H locs 0 0 (MQ below (Qv0 G A (wX4 G ad fz)) args s 0 0 A) (F0 m pc ls []) := by
    intro f9 H locs ls pc hK9 hdg hP hD hS
    cases hK9
    exact W.vret hx hb hr (fun t ht hW => ⟨⟨(), rfl, trivial, by rw [ht]; exact hP, hD⟩, hS.F ht⟩) hS.2.2 hdg hlocks
  generalize MQ below (Qv0 G A (wX4 G ad fz)) args s 0 0 A = Q at hRet ⊢
  have lk19 := hts (.fieldLink RX4 19 "FeatherShares$Tape" "place" "I") (by decide +kernel)
  have inX4 : ∀ w ∈ u_ws RX4 TX4 6, w ∈ wsX4_rewind := by decide +kernel
  have lk22 := hts (.fieldLink RX4 22 "FeatherShares$Tape" "tokenStart" "I") (by decide +kernel)
  have lk25 := hts (.fieldLink RX4 25 "FeatherShares$Tape" "token" "I") (by decide +kernel)
  have hl : lv_has ls 1 [(0, .ref (ad 0))] := hl
  have hK0 : fz = fz := rfl
  obtain ⟨res, hres, hK⟩ : ∃ res, p_X4_rewind f = some res ∧ res = fz := ⟨_, hf, rfl⟩
  clear hf
  have hf := hres
  clear hres
  unfold p_X4_rewind at hf
  refine lv_aload_n hx hb dX4_rewind_0 rfl (lv_at hl 0 rfl) ?_
  refine lv_iconst (v := (nI 0)) hx hb dX4_rewind_1 (ic_0) ?_
  refine va_put (C := RX4) (T := TX4) (N := 6) (ci := 4) (ty := .int) (v := .int (nI 0)) hx hb hts inX4 tyX4 tyX4_ok nmX4 hown hT hP hD hS 0 rfl rfl 2 (Nat.le_of_ble_eq_true rfl) lk19 (fun _ h => h) rfl (by decide +kernel) rfl rfl (Nat.le_of_ble_eq_true rfl) dX4_rewind_2 (fun H locs hP hD hS => ?_)
  have hP : va_P G.1 vwCl (wX4 G ad (mset 0 1 (nI 0) f)) H := hP
  have hD : va_D A (wX4 G ad (mset 0 1 (nI 0) f)) := hD
  refine lv_aload_n hx hb dX4_rewind_5 rfl (lv_at hl 0 rfl) ?_
  refine lv_iconst (v := (nI 0)) hx hb dX4_rewind_6 (ic_0) ?_
  refine va_put (C := RX4) (T := TX4) (N := 6) (ci := 4) (ty := .int) (v := .int (nI 0)) hx hb hts inX4 tyX4 tyX4_ok nmX4 hown hT hP hD hS 0 rfl rfl 3 (Nat.le_of_ble_eq_true rfl) lk22 (fun _ h => h) rfl (by decide +kernel) rfl rfl (Nat.le_of_ble_eq_true rfl) dX4_rewind_7 (fun H locs hP hD hS => ?_)
  have hP : va_P G.1 vwCl (wX4 G ad (mset 0 2 (nI 0) (mset 0 1 (nI 0) f))) H := hP
  have hD : va_D A (wX4 G ad (mset 0 2 (nI 0) (mset 0 1 (nI 0) f))) := hD
  refine lv_aload_n hx hb dX4_rewind_10 rfl (lv_at hl 0 rfl) ?_
  refine lv_iconst (v := (nI 0)) hx hb dX4_rewind_11 (ic_0) ?_
  refine va_put (C := RX4) (T := TX4) (N := 6) (ci := 4) (ty := .int) (v := .int (nI 0)) hx hb hts inX4 tyX4 tyX4_ok nmX4 hown hT hP hD hS 0 rfl rfl 4 (Nat.le_of_ble_eq_true rfl) lk25 (fun _ h => h) rfl (by decide +kernel) rfl rfl (Nat.le_of_ble_eq_true rfl) dX4_rewind_12 (fun H locs hP hD hS => ?_)
  have hP : va_P G.1 vwCl (wX4 G ad (mset 0 3 (nI 0) (mset 0 2 (nI 0) (mset 0 1 (nI 0) f)))) H := hP
  have hD : va_D A (wX4 G ad (mset 0 3 (nI 0) (mset 0 2 (nI 0) (mset 0 1 (nI 0) f)))) := hD
  have hK9 := K0_of hf hK
  exact hRet (mset 0 3 (nI 0) (mset 0 2 (nI 0) (mset 0 1 (nI 0) f))) _ _ _ _ hK9 dX4_rewind_15 hP hD hS
noncomputable def p_X4_isLetter (x0 : Int32) : Option (Int32) :=
  if x0 < (nI 97) then
    (some (nI 0))
  else
    (if (nI 122) < x0 then
       (some (nI 0))
     else
       (some (nI 1)))
set_option maxHeartbeats 4000000 in
set_option maxRecDepth 100000 in
theorem c_X4_isLetter (l : Launch) (G : Gt)  (x0 : Int32) (r : Int32) (hf : p_X4_isLetter x0 = some r) (sz : Nat) : Met l yX4_isLetter wsX4_isLetter ({ frames := 1, cells := 0, slots := 0, locals := 12 }) (Pc0 G sz [.int x0] ([] : va_W)) (Qz0 G (va_A ([] : va_W) sz) r ([] : va_W)) 0 0 (va_A ([] : va_W) sz) := by
  refine metP (Qf := fun A => Qz0 G A r ([] : va_W)) cX4_isLetter 1 (some .boolean) (by decide) rfl (Nat.le_of_ble_eq_true rfl) ?_
  intro p e s m below meth c A ls hC hr hlocks hin hE hA hsz hP hD hS hl
  generalize hargs : ([.int x0] : List Value).toArray = args at hC ⊢
  obtain ⟨hx, hb, hml, hown, hts⟩ := id hC
  have hT : va_K G.1 vwCl (tyL G) s := hE.1
  have hRet : ∀ (r9 : Int32) (H : Heap) (locs : List Loc) (ls : Array Slot) (pc : Nat) (hK9 : r9 = r) (hn9 : narrow .boolean (.int r9) = .int r9) (hdg : decode cX4_isLetter pc = .ok (.ireturn, 1)), va_P G.1 vwCl ([] : va_W) H → va_D A ([] : va_W) → va_S A s.heap H locs → W p l e ({ frames := 1, cells := 0, slots := 0, locals := 12 }) s m args below meth c H locs 0 0 (MQ below (Qz0 G A r ([] : va_W)) args s 0 0 A) (F0 m pc ls [.int r9]) := by
    intro r9 H locs ls pc hK9 hn9 hdg hP hD hS
    cases hK9
    exact W.zret hx hb hr hn9 (fun t ht hW => ⟨⟨r, (), rfl, ⟨rfl, hn9⟩, by rw [ht]; exact hP, hD⟩, hS.F ht⟩) hS.2.2 hdg hlocks
  generalize MQ below (Qz0 G A r ([] : va_W)) args s 0 0 A = Q at hRet ⊢
  have hl : lv_has ls 1 [(0, .int x0)] := hl
  have hK0 : r = r := rfl
  obtain ⟨res, hres, hK⟩ : ∃ res, p_X4_isLetter x0 = some res ∧ res = r := ⟨_, hf, rfl⟩
  clear hf
  have hf := hres
  clear hres
  unfold p_X4_isLetter at hf
  refine lv_iload_n hx hb dX4_isLetter_0 rfl (lv_at hl 0 rfl) ?_
  refine lv_bipush (v := (nI 97)) hx hb dX4_isLetter_1 (bi_97) ?_
  refine lv_icmp_lt (tgt := 16) hx hb dX4_isLetter_3 (by decide) (fun hc => ?_) (fun hc => ?_)
  · have hf := if_t hf hc
    refine lv_iconst (v := (nI 0)) hx hb dX4_isLetter_16 (ic_0) ?_
    have hK9 := K0_of hf hK
    exact hRet (nI 0) _ _ _ _ hK9 rfl dX4_isLetter_17 hP hD hS
  · have hf := if_f hf hc
    refine lv_iload_n hx hb dX4_isLetter_6 rfl (lv_at hl 0 rfl) ?_
    refine lv_bipush (v := (nI 122)) hx hb dX4_isLetter_7 (bi_122) ?_
    refine lv_icmp_gt (tgt := 16) hx hb dX4_isLetter_9 (by decide) (fun hc => ?_) (fun hc => ?_)
    · have hf := if_t hf hc
      refine lv_iconst (v := (nI 0)) hx hb dX4_isLetter_16 (ic_0) ?_
      have hK9 := K0_of hf hK
      exact hRet (nI 0) _ _ _ _ hK9 rfl dX4_isLetter_17 hP hD hS
    · have hf := if_f hf hc
      refine lv_iconst (v := (nI 1)) hx hb dX4_isLetter_12 (ic_1) ?_
      refine lv_goto (tgt := 17) hx hb dX4_isLetter_13 (by decide) ?_
      have hK9 := K0_of hf hK
      exact hRet (nI 1) _ _ _ _ hK9 rfl dX4_isLetter_17 hP hD hS
noncomputable def p_X4_takeName_L5  (f_ : Mem) : Option (Mem ⊕ Mem) :=
  if (f_ 0 0) ≤ (f_ 0 1) then
    (some (Sum.inr f_))
  else
    (gd (inb (f_ 0 1) 160) <|
     Option.bind (p_X4_isLetter (f_ 1 (f_ 0 1).toNatClampNeg)) <| fun r25 =>
     if r25 = 0 then
       (some (Sum.inr f_))
     else
       (some (Sum.inl (mset 0 1 ((f_ 0 1) + (nI 1)) f_))))
noncomputable def p_X4_takeName (f : Mem) : Option (Mem) :=
  Option.bind (lp (p_X4_takeName_L5) (mset 0 3 (nI 1) f)) <| fun f_5 =>
  some f_5
set_option maxHeartbeats 4000000 in
set_option maxRecDepth 100000 in
theorem c_X4_takeName (l : Launch) (G : Gt) (ad : Nat → Nat) (f : Mem) (fz : Mem) (hf : p_X4_takeName f = some fz) (sz : Nat) : Met l yX4_takeName wsX4_takeName ({ frames := 2, cells := 0, slots := 0, locals := 32 }) (Pc0 G sz [.ref (ad 0)] (wX4 G ad f)) (Qv0 G (va_A (wX4 G ad f) sz) (wX4 G ad fz)) 0 0 (va_A (wX4 G ad f) sz) := by
  refine metP (Qf := fun A => Qv0 G A (wX4 G ad fz)) cX4_takeName 1 (none) (by decide) rfl (Nat.le_of_ble_eq_true rfl) ?_
  intro p e s m below meth c A ls hC hr hlocks hin hE hA hsz hP hD hS hl
  generalize hargs : ([.ref (ad 0)] : List Value).toArray = args at hC ⊢
  obtain ⟨hx, hb, hml, hown, hts⟩ := id hC
  have hT : va_K G.1 vwCl (tyL G) s := hE.1
  have hRet : ∀ (f9 : Mem) (H : Heap) (locs : List Loc) (ls : Array Slot) (pc : Nat) (hK9 : f9 = fz) (hdg : decode cX4_takeName pc = .ok (.return_, 1)), va_P G.1 vwCl (wX4 G ad f9) H → va_D A (wX4 G ad f9) → va_S A s.heap H locs → W p l e ({ frames := 2, cells := 0, slots := 0, locals := 32 }) s m args below meth c H locs 0 0 (MQ below (Qv0 G A (wX4 G ad fz)) args s 0 0 A) (F0 m pc ls []) := by
    intro f9 H locs ls pc hK9 hdg hP hD hS
    cases hK9
    exact W.vret hx hb hr (fun t ht hW => ⟨⟨(), rfl, trivial, by rw [ht]; exact hP, hD⟩, hS.F ht⟩) hS.2.2 hdg hlocks
  generalize MQ below (Qv0 G A (wX4 G ad fz)) args s 0 0 A = Q at hRet ⊢
  have lk25 := hts (.fieldLink RX4 25 "FeatherShares$Tape" "token" "I") (by decide +kernel)
  have inX4 : ∀ w ∈ u_ws RX4 TX4 6, w ∈ wsX4_takeName := by decide +kernel
  have lk19 := hts (.fieldLink RX4 19 "FeatherShares$Tape" "place" "I") (by decide +kernel)
  have lk15 := hts (.fieldLink RX4 15 "FeatherShares$Tape" "length" "I") (by decide +kernel)
  have lk9 := hts (.fieldLink RX4 9 "FeatherShares$Tape" "bytes" "[I") (by decide +kernel)
  have hl : lv_has ls 1 [(0, .ref (ad 0))] := hl
  have hK0 : fz = fz := rfl
  obtain ⟨res, hres, hK⟩ : ∃ res, p_X4_takeName f = some res ∧ res = fz := ⟨_, hf, rfl⟩
  clear hf
  have hf := hres
  clear hres
  unfold p_X4_takeName at hf
  refine lv_aload_n hx hb dX4_takeName_0 rfl (lv_at hl 0 rfl) ?_
  refine lv_iconst (v := (nI 1)) hx hb dX4_takeName_1 (ic_1) ?_
  refine va_put (C := RX4) (T := TX4) (N := 6) (ci := 4) (ty := .int) (v := .int (nI 1)) hx hb hts inX4 tyX4 tyX4_ok nmX4 hown hT hP hD hS 0 rfl rfl 4 (Nat.le_of_ble_eq_true rfl) lk25 (fun _ h => h) rfl (by decide +kernel) rfl rfl (Nat.le_of_ble_eq_true rfl) dX4_takeName_2 (fun H locs hP hD hS => ?_)
  have hP : va_P G.1 vwCl (wX4 G ad (mset 0 3 (nI 1) f)) H := hP
  have hD : va_D A (wX4 G ad (mset 0 3 (nI 1) f)) := hD
  obtain ⟨f_5, hlp, hf⟩ := bd_e hf
  refine lp_W1 (p_X4_takeName_L5) (fun (f_ : Mem) => ∀ (H : Heap) (locs : List Loc) (ls : Array Slot), va_P G.1 vwCl (wX4 G ad f_) H → va_D A (wX4 G ad f_) → va_S A s.heap H locs → lv_has ls 1 [(0, .ref (ad 0))] → W p l e ({ frames := 2, cells := 0, slots := 0, locals := 32 }) s m args below meth c H locs 0 0 Q (F0 m 5 ls [])) (fun (f_5 : Mem) => ∀ (H : Heap) (locs : List Loc) (ls : Array Slot), va_P G.1 vwCl (wX4 G ad f_5) H → va_D A (wX4 G ad f_5) → va_S A s.heap H locs → lv_has ls 1 [] → W p l e ({ frames := 2, cells := 0, slots := 0, locals := 32 }) s m args below meth c H locs 0 0 Q (F0 m 44 ls [])) ?_ hlp ?_ _ _ _ hP hD hS (lv_sub hl [0] rfl)
  · clear hlp hf hK hP hD hS hl
    intro K5 hW5 hX5 
    rintro f_ res hf hK H locs ls hP hD hS hl
    unfold p_X4_takeName_L5 at hf
    refine lv_aload_n hx hb dX4_takeName_5 rfl (lv_at hl 0 rfl) ?_
    refine va_get (C := RX4) (T := TX4) (N := 6) (ci := 4) (v := .int (f_ 0 1)) hx hb hts inX4 hown hT hP 0 rfl rfl 2 (Nat.le_of_ble_eq_true rfl) lk19 (fun _ h => h) rfl dX4_takeName_6 ?_
    refine lv_aload_n hx hb dX4_takeName_9 rfl (lv_at hl 0 rfl) ?_
    refine va_get (C := RX4) (T := TX4) (N := 6) (ci := 4) (v := .int (f_ 0 0)) hx hb hts inX4 hown hT hP 0 rfl rfl 1 (Nat.le_of_ble_eq_true rfl) lk15 (fun _ h => h) rfl dX4_takeName_10 ?_
    refine lv_icmp_ge (tgt := 44) hx hb dX4_takeName_13 (by decide) (fun hc => ?_) (fun hc => ?_)
    · have hf := if_t hf hc
      have hK9 := K_of hf hK
      have hK9 := hX5 _ hK9
      exact hK9 _ _ _ hP hD hS (lv_sub hl [] rfl)
    · have hf := if_f hf hc
      refine lv_aload_n hx hb dX4_takeName_16 rfl (lv_at hl 0 rfl) ?_
      refine va_get (C := RX4) (T := TX4) (N := 6) (ci := 4) (v := .ref (ad 1)) hx hb hts inX4 hown hT hP 0 rfl rfl 0 (Nat.le_of_ble_eq_true rfl) lk9 (fun _ h => h) rfl dX4_takeName_17 ?_
      refine lv_aload_n hx hb dX4_takeName_20 rfl (lv_at hl 0 rfl) ?_
      refine va_get (C := RX4) (T := TX4) (N := 6) (ci := 4) (v := .int (f_ 0 1)) hx hb hts inX4 hown hT hP 0 rfl rfl 2 (Nat.le_of_ble_eq_true rfl) lk19 (fun _ h => h) rfl dX4_takeName_21 ?_
      obtain ⟨hg, hf⟩ := gd_e hf
      refine va_iald (f := f_ 1) hx hb hT hP 1 0 rfl rfl (inb_e hg) dX4_takeName_24 ?_
      obtain ⟨r25, hc25, hf⟩ := bd_e hf
      refine cl_z_ro (Wd := (wX4 G ad f_)) (Wc := ([] : va_W)) [] rfl (va_runS (As := [.int (f_ 1 (f_ 0 1).toNatClampNeg)]) (rest := []) hC (c_X4_isLetter l G (f_ 1 (f_ 0 1).toNatClampNeg) r25 hc25 _) (va_cwS 1 hts gX4_takeName_X4_isLetter rfl rfl rfl (by decide +kernel) ⟨Nat.le_of_ble_eq_true rfl, Nat.le_of_ble_eq_true rfl⟩) ⟨Pc0_blind, fun U hU hW => Pc0_at (Wd := ([] : va_W)) hE (hP.subm [] rfl) (hD.sub [] (by decide) rfl) hU hW⟩ rfl rfl hl.1 rfl (lv_room (Nat.le_of_ble_eq_true rfl)) dX4_takeName_25 ⟨Nat.zero_le _, Nat.zero_le _⟩) hS hA hP hD (fun H locs hn25 hP hD hS => ?_)
      refine lv_if_eq (tgt := 44) hx hb dX4_takeName_28 (by decide) (fun hc => ?_) (fun hc => ?_)
      · have hf := if_t hf hc
        have hK9 := K_of hf hK
        have hK9 := hX5 _ hK9
        exact hK9 _ _ _ hP hD hS (lv_sub hl [] rfl)
      · have hf := if_f hf hc
        refine lv_aload_n hx hb dX4_takeName_31 rfl (lv_at hl 0 rfl) ?_
        refine lv_dup hx hb dX4_takeName_32 rfl ?_
        refine va_get (C := RX4) (T := TX4) (N := 6) (ci := 4) (v := .int (f_ 0 1)) hx hb hts inX4 hown hT hP 0 rfl rfl 2 (Nat.le_of_ble_eq_true rfl) lk19 (fun _ h => h) rfl dX4_takeName_33 ?_
        refine lv_iconst (v := (nI 1)) hx hb dX4_takeName_36 (ic_1) ?_
        refine lv_iadd hx hb dX4_takeName_37 ?_
        refine va_put (C := RX4) (T := TX4) (N := 6) (ci := 4) (ty := .int) (v := .int ((f_ 0 1) + (nI 1))) hx hb hts inX4 tyX4 tyX4_ok nmX4 hown hT hP hD hS 0 rfl rfl 2 (Nat.le_of_ble_eq_true rfl) lk19 (fun _ h => h) rfl (by decide +kernel) rfl rfl (Nat.le_of_ble_eq_true rfl) dX4_takeName_38 (fun H locs hP hD hS => ?_)
        have hP : va_P G.1 vwCl (wX4 G ad (mset 0 1 ((f_ 0 1) + (nI 1)) f_)) H := hP
        have hD : va_D A (wX4 G ad (mset 0 1 ((f_ 0 1) + (nI 1)) f_)) := hD
        refine lv_goto (tgt := 5) hx hb dX4_takeName_41 (by decide) ?_
        have hK9 := K_of hf hK
        have hK9 := hW5 _ hK9
        exact hK9 _ _ _ hP hD hS (lv_sub hl [0] rfl)
  · try dsimp only at hf
    show ∀ (H : Heap) (locs : List Loc) (ls : Array Slot), va_P G.1 vwCl (wX4 G ad f_5) H → va_D A (wX4 G ad f_5) → va_S A s.heap H locs → lv_has ls 1 [] → W p l e ({ frames := 2, cells := 0, slots := 0, locals := 32 }) s m args below meth c H locs 0 0 Q (F0 m 44 ls [])
    intro H locs ls hP hD hS hl
    have hK9 := K0_of hf hK
    exact hRet f_5 _ _ _ _ hK9 dX4_takeName_44 hP hD hS
noncomputable def p_X4_isFigure (x0 : Int32) : Option (Int32) :=
  if x0 < (nI 48) then
    (some (nI 0))
  else
    (if (nI 57) < x0 then
       (some (nI 0))
     else
       (some (nI 1)))
set_option maxHeartbeats 4000000 in
set_option maxRecDepth 100000 in
theorem c_X4_isFigure (l : Launch) (G : Gt)  (x0 : Int32) (r : Int32) (hf : p_X4_isFigure x0 = some r) (sz : Nat) : Met l yX4_isFigure wsX4_isFigure ({ frames := 1, cells := 0, slots := 0, locals := 12 }) (Pc0 G sz [.int x0] ([] : va_W)) (Qz0 G (va_A ([] : va_W) sz) r ([] : va_W)) 0 0 (va_A ([] : va_W) sz) := by
  refine metP (Qf := fun A => Qz0 G A r ([] : va_W)) cX4_isFigure 1 (some .boolean) (by decide) rfl (Nat.le_of_ble_eq_true rfl) ?_
  intro p e s m below meth c A ls hC hr hlocks hin hE hA hsz hP hD hS hl
  generalize hargs : ([.int x0] : List Value).toArray = args at hC ⊢
  obtain ⟨hx, hb, hml, hown, hts⟩ := id hC
  have hT : va_K G.1 vwCl (tyL G) s := hE.1
  have hRet : ∀ (r9 : Int32) (H : Heap) (locs : List Loc) (ls : Array Slot) (pc : Nat) (hK9 : r9 = r) (hn9 : narrow .boolean (.int r9) = .int r9) (hdg : decode cX4_isFigure pc = .ok (.ireturn, 1)), va_P G.1 vwCl ([] : va_W) H → va_D A ([] : va_W) → va_S A s.heap H locs → W p l e ({ frames := 1, cells := 0, slots := 0, locals := 12 }) s m args below meth c H locs 0 0 (MQ below (Qz0 G A r ([] : va_W)) args s 0 0 A) (F0 m pc ls [.int r9]) := by
    intro r9 H locs ls pc hK9 hn9 hdg hP hD hS
    cases hK9
    exact W.zret hx hb hr hn9 (fun t ht hW => ⟨⟨r, (), rfl, ⟨rfl, hn9⟩, by rw [ht]; exact hP, hD⟩, hS.F ht⟩) hS.2.2 hdg hlocks
  generalize MQ below (Qz0 G A r ([] : va_W)) args s 0 0 A = Q at hRet ⊢
  have hl : lv_has ls 1 [(0, .int x0)] := hl
  have hK0 : r = r := rfl
  obtain ⟨res, hres, hK⟩ : ∃ res, p_X4_isFigure x0 = some res ∧ res = r := ⟨_, hf, rfl⟩
  clear hf
  have hf := hres
  clear hres
  unfold p_X4_isFigure at hf
  refine lv_iload_n hx hb dX4_isFigure_0 rfl (lv_at hl 0 rfl) ?_
  refine lv_bipush (v := (nI 48)) hx hb dX4_isFigure_1 (bi_48) ?_
  refine lv_icmp_lt (tgt := 16) hx hb dX4_isFigure_3 (by decide) (fun hc => ?_) (fun hc => ?_)
  · have hf := if_t hf hc
    refine lv_iconst (v := (nI 0)) hx hb dX4_isFigure_16 (ic_0) ?_
    have hK9 := K0_of hf hK
    exact hRet (nI 0) _ _ _ _ hK9 rfl dX4_isFigure_17 hP hD hS
  · have hf := if_f hf hc
    refine lv_iload_n hx hb dX4_isFigure_6 rfl (lv_at hl 0 rfl) ?_
    refine lv_bipush (v := (nI 57)) hx hb dX4_isFigure_7 (bi_57) ?_
    refine lv_icmp_gt (tgt := 16) hx hb dX4_isFigure_9 (by decide) (fun hc => ?_) (fun hc => ?_)
    · have hf := if_t hf hc
      refine lv_iconst (v := (nI 0)) hx hb dX4_isFigure_16 (ic_0) ?_
      have hK9 := K0_of hf hK
      exact hRet (nI 0) _ _ _ _ hK9 rfl dX4_isFigure_17 hP hD hS
    · have hf := if_f hf hc
      refine lv_iconst (v := (nI 1)) hx hb dX4_isFigure_12 (ic_1) ?_
      refine lv_goto (tgt := 17) hx hb dX4_isFigure_13 (by decide) ?_
      have hK9 := K0_of hf hK
      exact hRet (nI 1) _ _ _ _ hK9 rfl dX4_isFigure_17 hP hD hS
noncomputable def p_X4_takeNumber_B87 (f : Mem) (s0 : Int32) : Option (Mem) :=
  some (mset 0 3 s0 f)
noncomputable def p_X4_takeNumber_B68 (f : Mem) : Option (Mem) :=
  if (nI 2) < ((f 0 1) - (f 0 2)) then
    (p_X4_takeNumber_B87 f (nI 4))
  else
    (p_X4_takeNumber_B87 f (nI 2))
noncomputable def p_X4_takeNumber_L5  (f_ : Mem) : Option (Mem ⊕ Mem) :=
  if (f_ 0 0) ≤ (f_ 0 1) then
    (some (Sum.inr f_))
  else
    (gd (inb (f_ 0 1) 160) <|
     Option.bind (p_X4_isFigure (f_ 1 (f_ 0 1).toNatClampNeg)) <| fun r25 =>
     if r25 = 0 then
       (some (Sum.inr f_))
     else
       (gd (inb (f_ 0 1) 160) <|
        some (Sum.inl (mset 0 1 ((f_ 0 1) + (nI 1)) (mset 0 4 ((((nI 10) * (f_ 0 4)) + (f_ 1 (f_ 0 1).toNatClampNeg)) - (nI 48)) f_)))))
noncomputable def p_X4_takeNumber (f : Mem) : Option (Mem) :=
  Option.bind (lp (p_X4_takeNumber_L5) (mset 0 4 (nI 0) f)) <| fun f_5 =>
  p_X4_takeNumber_B68 f_5
set_option maxHeartbeats 4000000 in
set_option maxRecDepth 100000 in
theorem c_X4_takeNumber (l : Launch) (G : Gt) (ad : Nat → Nat) (f : Mem) (fz : Mem) (hf : p_X4_takeNumber f = some fz) (sz : Nat) : Met l yX4_takeNumber wsX4_takeNumber ({ frames := 2, cells := 0, slots := 0, locals := 32 }) (Pc0 G sz [.ref (ad 0)] (wX4 G ad f)) (Qv0 G (va_A (wX4 G ad f) sz) (wX4 G ad fz)) 0 0 (va_A (wX4 G ad f) sz) := by
  refine metP (Qf := fun A => Qv0 G A (wX4 G ad fz)) cX4_takeNumber 1 (none) (by decide) rfl (Nat.le_of_ble_eq_true rfl) ?_
  intro p e s m below meth c A ls hC hr hlocks hin hE hA hsz hP hD hS hl
  generalize hargs : ([.ref (ad 0)] : List Value).toArray = args at hC ⊢
  obtain ⟨hx, hb, hml, hown, hts⟩ := id hC
  have hT : va_K G.1 vwCl (tyL G) s := hE.1
  have hRet : ∀ (f9 : Mem) (H : Heap) (locs : List Loc) (ls : Array Slot) (pc : Nat) (hK9 : f9 = fz) (hdg : decode cX4_takeNumber pc = .ok (.return_, 1)), va_P G.1 vwCl (wX4 G ad f9) H → va_D A (wX4 G ad f9) → va_S A s.heap H locs → W p l e ({ frames := 2, cells := 0, slots := 0, locals := 32 }) s m args below meth c H locs 0 0 (MQ below (Qv0 G A (wX4 G ad fz)) args s 0 0 A) (F0 m pc ls []) := by
    intro f9 H locs ls pc hK9 hdg hP hD hS
    cases hK9
    exact W.vret hx hb hr (fun t ht hW => ⟨⟨(), rfl, trivial, by rw [ht]; exact hP, hD⟩, hS.F ht⟩) hS.2.2 hdg hlocks
  generalize MQ below (Qv0 G A (wX4 G ad fz)) args s 0 0 A = Q at hRet ⊢
  have lk25 := hts (.fieldLink RX4 25 "FeatherShares$Tape" "token" "I") (by decide +kernel)
  have inX4 : ∀ w ∈ u_ws RX4 TX4 6, w ∈ wsX4_takeNumber := by decide +kernel
  have lk19 := hts (.fieldLink RX4 19 "FeatherShares$Tape" "place" "I") (by decide +kernel)
  have lk22 := hts (.fieldLink RX4 22 "FeatherShares$Tape" "tokenStart" "I") (by decide +kernel)
  have lk28 := hts (.fieldLink RX4 28 "FeatherShares$Tape" "value" "I") (by decide +kernel)
  have lk15 := hts (.fieldLink RX4 15 "FeatherShares$Tape" "length" "I") (by decide +kernel)
  have lk9 := hts (.fieldLink RX4 9 "FeatherShares$Tape" "bytes" "[I") (by decide +kernel)
  have hl : lv_has ls 1 [(0, .ref (ad 0))] := hl
  have hK0 : fz = fz := rfl
  have hB87 : ∀ (f : Mem) (s0 : Int32) (res : Mem) (hf : p_X4_takeNumber_B87 f s0 = some res) (hK : res = fz), ∀ (H : Heap) (locs : List Loc) (ls : Array Slot), va_P G.1 vwCl (wX4 G ad f) H → va_D A (wX4 G ad f) → va_S A s.heap H locs → lv_has ls 1 [] → W p l e ({ frames := 2, cells := 0, slots := 0, locals := 32 }) s m args below meth c H locs 0 0 Q (F0 m 87 ls [.int s0, .ref (ad 0)]) := by
    intro f s0 res hf hK H locs ls hP hD hS hl
    unfold p_X4_takeNumber_B87 at hf
    refine va_put (C := RX4) (T := TX4) (N := 6) (ci := 4) (ty := .int) (v := .int s0) hx hb hts inX4 tyX4 tyX4_ok nmX4 hown hT hP hD hS 0 rfl rfl 4 (Nat.le_of_ble_eq_true rfl) lk25 (fun _ h => h) rfl (by decide +kernel) rfl rfl (Nat.le_of_ble_eq_true rfl) dX4_takeNumber_87 (fun H locs hP hD hS => ?_)
    have hP : va_P G.1 vwCl (wX4 G ad (mset 0 3 s0 f)) H := hP
    have hD : va_D A (wX4 G ad (mset 0 3 s0 f)) := hD
    have hK9 := K0_of hf hK
    exact hRet (mset 0 3 s0 f) _ _ _ _ hK9 dX4_takeNumber_90 hP hD hS
  have hB68 : ∀ (f : Mem) (res : Mem) (hf : p_X4_takeNumber_B68 f = some res) (hK : res = fz), ∀ (H : Heap) (locs : List Loc) (ls : Array Slot), va_P G.1 vwCl (wX4 G ad f) H → va_D A (wX4 G ad f) → va_S A s.heap H locs → lv_has ls 1 [(0, .ref (ad 0))] → W p l e ({ frames := 2, cells := 0, slots := 0, locals := 32 }) s m args below meth c H locs 0 0 Q (F0 m 68 ls []) := by
    intro f res hf hK H locs ls hP hD hS hl
    unfold p_X4_takeNumber_B68 at hf
    refine lv_aload_n hx hb dX4_takeNumber_68 rfl (lv_at hl 0 rfl) ?_
    refine lv_aload_n hx hb dX4_takeNumber_69 rfl (lv_at hl 0 rfl) ?_
    refine va_get (C := RX4) (T := TX4) (N := 6) (ci := 4) (v := .int (f 0 1)) hx hb hts inX4 hown hT hP 0 rfl rfl 2 (Nat.le_of_ble_eq_true rfl) lk19 (fun _ h => h) rfl dX4_takeNumber_70 ?_
    refine lv_aload_n hx hb dX4_takeNumber_73 rfl (lv_at hl 0 rfl) ?_
    refine va_get (C := RX4) (T := TX4) (N := 6) (ci := 4) (v := .int (f 0 2)) hx hb hts inX4 hown hT hP 0 rfl rfl 3 (Nat.le_of_ble_eq_true rfl) lk22 (fun _ h => h) rfl dX4_takeNumber_74 ?_
    refine lv_isub hx hb dX4_takeNumber_77 ?_
    refine lv_iconst (v := (nI 2)) hx hb dX4_takeNumber_78 (ic_2) ?_
    refine lv_icmp_gt (tgt := 86) hx hb dX4_takeNumber_79 (by decide) (fun hc => ?_) (fun hc => ?_)
    · have hf := if_t hf hc
      refine lv_iconst (v := (nI 4)) hx hb dX4_takeNumber_86 (ic_4) ?_
      exact hB87 f (nI 4) _ hf hK _ _ _ hP hD hS (lv_sub hl [] rfl)
    · have hf := if_f hf hc
      refine lv_iconst (v := (nI 2)) hx hb dX4_takeNumber_82 (ic_2) ?_
      refine lv_goto (tgt := 87) hx hb dX4_takeNumber_83 (by decide) ?_
      exact hB87 f (nI 2) _ hf hK _ _ _ hP hD hS (lv_sub hl [] rfl)
  obtain ⟨res, hres, hK⟩ : ∃ res, p_X4_takeNumber f = some res ∧ res = fz := ⟨_, hf, rfl⟩
  clear hf
  have hf := hres
  clear hres
  unfold p_X4_takeNumber at hf
  refine lv_aload_n hx hb dX4_takeNumber_0 rfl (lv_at hl 0 rfl) ?_
  refine lv_iconst (v := (nI 0)) hx hb dX4_takeNumber_1 (ic_0) ?_
  refine va_put (C := RX4) (T := TX4) (N := 6) (ci := 4) (ty := .int) (v := .int (nI 0)) hx hb hts inX4 tyX4 tyX4_ok nmX4 hown hT hP hD hS 0 rfl rfl 5 (Nat.le_of_ble_eq_true rfl) lk28 (fun _ h => h) rfl (by decide +kernel) rfl rfl (Nat.le_of_ble_eq_true rfl) dX4_takeNumber_2 (fun H locs hP hD hS => ?_)
  have hP : va_P G.1 vwCl (wX4 G ad (mset 0 4 (nI 0) f)) H := hP
  have hD : va_D A (wX4 G ad (mset 0 4 (nI 0) f)) := hD
  obtain ⟨f_5, hlp, hf⟩ := bd_e hf
  refine lp_W1 (p_X4_takeNumber_L5) (fun (f_ : Mem) => ∀ (H : Heap) (locs : List Loc) (ls : Array Slot), va_P G.1 vwCl (wX4 G ad f_) H → va_D A (wX4 G ad f_) → va_S A s.heap H locs → lv_has ls 1 [(0, .ref (ad 0))] → W p l e ({ frames := 2, cells := 0, slots := 0, locals := 32 }) s m args below meth c H locs 0 0 Q (F0 m 5 ls [])) (fun (f_5 : Mem) => ∀ (H : Heap) (locs : List Loc) (ls : Array Slot), va_P G.1 vwCl (wX4 G ad f_5) H → va_D A (wX4 G ad f_5) → va_S A s.heap H locs → lv_has ls 1 [(0, .ref (ad 0))] → W p l e ({ frames := 2, cells := 0, slots := 0, locals := 32 }) s m args below meth c H locs 0 0 Q (F0 m 68 ls [])) ?_ hlp ?_ _ _ _ hP hD hS (lv_sub hl [0] rfl)
  · clear hlp hf hK hP hD hS hl
    intro K5 hW5 hX5 
    rintro f_ res hf hK H locs ls hP hD hS hl
    unfold p_X4_takeNumber_L5 at hf
    refine lv_aload_n hx hb dX4_takeNumber_5 rfl (lv_at hl 0 rfl) ?_
    refine va_get (C := RX4) (T := TX4) (N := 6) (ci := 4) (v := .int (f_ 0 1)) hx hb hts inX4 hown hT hP 0 rfl rfl 2 (Nat.le_of_ble_eq_true rfl) lk19 (fun _ h => h) rfl dX4_takeNumber_6 ?_
    refine lv_aload_n hx hb dX4_takeNumber_9 rfl (lv_at hl 0 rfl) ?_
    refine va_get (C := RX4) (T := TX4) (N := 6) (ci := 4) (v := .int (f_ 0 0)) hx hb hts inX4 hown hT hP 0 rfl rfl 1 (Nat.le_of_ble_eq_true rfl) lk15 (fun _ h => h) rfl dX4_takeNumber_10 ?_
    refine lv_icmp_ge (tgt := 68) hx hb dX4_takeNumber_13 (by decide) (fun hc => ?_) (fun hc => ?_)
    · have hf := if_t hf hc
      have hK9 := K_of hf hK
      have hK9 := hX5 _ hK9
      exact hK9 _ _ _ hP hD hS (lv_sub hl [0] rfl)
    · have hf := if_f hf hc
      refine lv_aload_n hx hb dX4_takeNumber_16 rfl (lv_at hl 0 rfl) ?_
      refine va_get (C := RX4) (T := TX4) (N := 6) (ci := 4) (v := .ref (ad 1)) hx hb hts inX4 hown hT hP 0 rfl rfl 0 (Nat.le_of_ble_eq_true rfl) lk9 (fun _ h => h) rfl dX4_takeNumber_17 ?_
      refine lv_aload_n hx hb dX4_takeNumber_20 rfl (lv_at hl 0 rfl) ?_
      refine va_get (C := RX4) (T := TX4) (N := 6) (ci := 4) (v := .int (f_ 0 1)) hx hb hts inX4 hown hT hP 0 rfl rfl 2 (Nat.le_of_ble_eq_true rfl) lk19 (fun _ h => h) rfl dX4_takeNumber_21 ?_
      obtain ⟨hg, hf⟩ := gd_e hf
      refine va_iald (f := f_ 1) hx hb hT hP 1 0 rfl rfl (inb_e hg) dX4_takeNumber_24 ?_
      obtain ⟨r25, hc25, hf⟩ := bd_e hf
      refine cl_z_ro (Wd := (wX4 G ad f_)) (Wc := ([] : va_W)) [] rfl (va_runS (As := [.int (f_ 1 (f_ 0 1).toNatClampNeg)]) (rest := []) hC (c_X4_isFigure l G (f_ 1 (f_ 0 1).toNatClampNeg) r25 hc25 _) (va_cwS 1 hts gX4_takeNumber_X4_isFigure rfl rfl rfl (by decide +kernel) ⟨Nat.le_of_ble_eq_true rfl, Nat.le_of_ble_eq_true rfl⟩) ⟨Pc0_blind, fun U hU hW => Pc0_at (Wd := ([] : va_W)) hE (hP.subm [] rfl) (hD.sub [] (by decide) rfl) hU hW⟩ rfl rfl hl.1 rfl (lv_room (Nat.le_of_ble_eq_true rfl)) dX4_takeNumber_25 ⟨Nat.zero_le _, Nat.zero_le _⟩) hS hA hP hD (fun H locs hn25 hP hD hS => ?_)
      refine lv_if_eq (tgt := 68) hx hb dX4_takeNumber_28 (by decide) (fun hc => ?_) (fun hc => ?_)
      · have hf := if_t hf hc
        have hK9 := K_of hf hK
        have hK9 := hX5 _ hK9
        exact hK9 _ _ _ hP hD hS (lv_sub hl [0] rfl)
      · have hf := if_f hf hc
        refine lv_aload_n hx hb dX4_takeNumber_31 rfl (lv_at hl 0 rfl) ?_
        refine lv_bipush (v := (nI 10)) hx hb dX4_takeNumber_32 (bi_10) ?_
        refine lv_aload_n hx hb dX4_takeNumber_34 rfl (lv_at hl 0 rfl) ?_
        refine va_get (C := RX4) (T := TX4) (N := 6) (ci := 4) (v := .int (f_ 0 4)) hx hb hts inX4 hown hT hP 0 rfl rfl 5 (Nat.le_of_ble_eq_true rfl) lk28 (fun _ h => h) rfl dX4_takeNumber_35 ?_
        refine lv_imul hx hb dX4_takeNumber_38 ?_
        refine lv_aload_n hx hb dX4_takeNumber_39 rfl (lv_at hl 0 rfl) ?_
        refine va_get (C := RX4) (T := TX4) (N := 6) (ci := 4) (v := .ref (ad 1)) hx hb hts inX4 hown hT hP 0 rfl rfl 0 (Nat.le_of_ble_eq_true rfl) lk9 (fun _ h => h) rfl dX4_takeNumber_40 ?_
        refine lv_aload_n hx hb dX4_takeNumber_43 rfl (lv_at hl 0 rfl) ?_
        refine va_get (C := RX4) (T := TX4) (N := 6) (ci := 4) (v := .int (f_ 0 1)) hx hb hts inX4 hown hT hP 0 rfl rfl 2 (Nat.le_of_ble_eq_true rfl) lk19 (fun _ h => h) rfl dX4_takeNumber_44 ?_
        obtain ⟨hg, hf⟩ := gd_e hf
        refine va_iald (f := f_ 1) hx hb hT hP 1 0 rfl rfl (inb_e hg) dX4_takeNumber_47 ?_
        refine lv_iadd hx hb dX4_takeNumber_48 ?_
        refine lv_bipush (v := (nI 48)) hx hb dX4_takeNumber_49 (bi_48) ?_
        refine lv_isub hx hb dX4_takeNumber_51 ?_
        refine va_put (C := RX4) (T := TX4) (N := 6) (ci := 4) (ty := .int) (v := .int ((((nI 10) * (f_ 0 4)) + (f_ 1 (f_ 0 1).toNatClampNeg)) - (nI 48))) hx hb hts inX4 tyX4 tyX4_ok nmX4 hown hT hP hD hS 0 rfl rfl 5 (Nat.le_of_ble_eq_true rfl) lk28 (fun _ h => h) rfl (by decide +kernel) rfl rfl (Nat.le_of_ble_eq_true rfl) dX4_takeNumber_52 (fun H locs hP hD hS => ?_)
        have hP : va_P G.1 vwCl (wX4 G ad (mset 0 4 ((((nI 10) * (f_ 0 4)) + (f_ 1 (f_ 0 1).toNatClampNeg)) - (nI 48)) f_)) H := hP
        have hD : va_D A (wX4 G ad (mset 0 4 ((((nI 10) * (f_ 0 4)) + (f_ 1 (f_ 0 1).toNatClampNeg)) - (nI 48)) f_)) := hD
        refine lv_aload_n hx hb dX4_takeNumber_55 rfl (lv_at hl 0 rfl) ?_
        refine lv_dup hx hb dX4_takeNumber_56 rfl ?_
        refine va_get (C := RX4) (T := TX4) (N := 6) (ci := 4) (v := .int (f_ 0 1)) hx hb hts inX4 hown hT hP 0 rfl rfl 2 (Nat.le_of_ble_eq_true rfl) lk19 (fun _ h => h) rfl dX4_takeNumber_57 ?_
        refine lv_iconst (v := (nI 1)) hx hb dX4_takeNumber_60 (ic_1) ?_
        refine lv_iadd hx hb dX4_takeNumber_61 ?_
        refine va_put (C := RX4) (T := TX4) (N := 6) (ci := 4) (ty := .int) (v := .int ((f_ 0 1) + (nI 1))) hx hb hts inX4 tyX4 tyX4_ok nmX4 hown hT hP hD hS 0 rfl rfl 2 (Nat.le_of_ble_eq_true rfl) lk19 (fun _ h => h) rfl (by decide +kernel) rfl rfl (Nat.le_of_ble_eq_true rfl) dX4_takeNumber_62 (fun H locs hP hD hS => ?_)
        have hP : va_P G.1 vwCl (wX4 G ad (mset 0 1 ((f_ 0 1) + (nI 1)) (mset 0 4 ((((nI 10) * (f_ 0 4)) + (f_ 1 (f_ 0 1).toNatClampNeg)) - (nI 48)) f_))) H := hP
        have hD : va_D A (wX4 G ad (mset 0 1 ((f_ 0 1) + (nI 1)) (mset 0 4 ((((nI 10) * (f_ 0 4)) + (f_ 1 (f_ 0 1).toNatClampNeg)) - (nI 48)) f_))) := hD
        refine lv_goto (tgt := 5) hx hb dX4_takeNumber_65 (by decide) ?_
        have hK9 := K_of hf hK
        have hK9 := hW5 _ hK9
        exact hK9 _ _ _ hP hD hS (lv_sub hl [0] rfl)
  · try dsimp only at hf
    show ∀ (H : Heap) (locs : List Loc) (ls : Array Slot), va_P G.1 vwCl (wX4 G ad f_5) H → va_D A (wX4 G ad f_5) → va_S A s.heap H locs → lv_has ls 1 [(0, .ref (ad 0))] → W p l e ({ frames := 2, cells := 0, slots := 0, locals := 32 }) s m args below meth c H locs 0 0 Q (F0 m 68 ls [])
    intro H locs ls hP hD hS hl
    exact hB68 f_5 _ hf hK _ _ _ hP hD hS (lv_sub hl [0] rfl)
noncomputable def p_X4_nextToken_B129 (f : Mem) (s0 : Int32) : Option (Mem) :=
  some (mset 0 1 ((f 0 1) + (nI 1)) (mset 0 3 s0 f))
noncomputable def p_X4_nextToken_B38 (f : Mem) : Option (Mem) :=
  if (f 0 1) < (f 0 0) then
    (gd (inb (f 0 1) 160) <|
     Option.bind (p_X4_isLetter (f 1 (f 0 1).toNatClampNeg)) <| fun r74 =>
     if r74 = 0 then
       (gd (inb (f 0 1) 160) <|
        Option.bind (p_X4_isFigure (f 1 (f 0 1).toNatClampNeg)) <| fun r96 =>
        if r96 = 0 then
          (gd (inb (f 0 1) 160) <|
           if (f 1 (f 0 1).toNatClampNeg) = (nI 59) then
             (p_X4_nextToken_B129 (mset 0 2 (f 0 1) f) (nI 3))
           else
             (p_X4_nextToken_B129 (mset 0 2 (f 0 1) f) (nI 4)))
        else
          (Option.bind (p_X4_takeNumber (mset 0 2 (f 0 1) f)) <| fun f_103 =>
           some f_103))
     else
       (Option.bind (p_X4_takeName (mset 0 2 (f 0 1) f)) <| fun f_81 =>
        some f_81))
  else
    (some (mset 0 3 (nI 0) (mset 0 2 (f 0 1) f)))
noncomputable def p_X4_nextToken_L0  (f_ : Mem) : Option (Mem ⊕ Mem) :=
  if (f_ 0 0) ≤ (f_ 0 1) then
    (some (Sum.inr f_))
  else
    (gd (inb (f_ 0 1) 160) <|
     if (f_ 1 (f_ 0 1).toNatClampNeg) = (nI 32) then
       (some (Sum.inl (mset 0 1 ((f_ 0 1) + (nI 1)) f_)))
     else
       (some (Sum.inr f_)))
noncomputable def p_X4_nextToken (f : Mem) : Option (Mem) :=
  Option.bind (lp (p_X4_nextToken_L0) f) <| fun f_0 =>
  p_X4_nextToken_B38 f_0
set_option maxHeartbeats 4000000 in
set_option maxRecDepth 100000 in
theorem c_X4_nextToken (l : Launch) (G : Gt) (ad : Nat → Nat) (f : Mem) (fz : Mem) (hf : p_X4_nextToken f = some fz) (sz : Nat) : Met l yX4_nextToken wsX4_nextToken ({ frames := 3, cells := 0, slots := 0, locals := 52 }) (Pc0 G sz [.ref (ad 0)] (wX4 G ad f)) (Qv0 G (va_A (wX4 G ad f) sz) (wX4 G ad fz)) 0 0 (va_A (wX4 G ad f) sz) := by
  refine metP (Qf := fun A => Qv0 G A (wX4 G ad fz)) cX4_nextToken 1 (none) (by decide) rfl (Nat.le_of_ble_eq_true rfl) ?_
  intro p e s m below meth c A ls hC hr hlocks hin hE hA hsz hP hD hS hl
  generalize hargs : ([.ref (ad 0)] : List Value).toArray = args at hC ⊢
  obtain ⟨hx, hb, hml, hown, hts⟩ := id hC
  have hT : va_K G.1 vwCl (tyL G) s := hE.1
  have hRet : ∀ (f9 : Mem) (H : Heap) (locs : List Loc) (ls : Array Slot) (pc : Nat) (hK9 : f9 = fz) (hdg : decode cX4_nextToken pc = .ok (.return_, 1)), va_P G.1 vwCl (wX4 G ad f9) H → va_D A (wX4 G ad f9) → va_S A s.heap H locs → W p l e ({ frames := 3, cells := 0, slots := 0, locals := 52 }) s m args below meth c H locs 0 0 (MQ below (Qv0 G A (wX4 G ad fz)) args s 0 0 A) (F0 m pc ls []) := by
    intro f9 H locs ls pc hK9 hdg hP hD hS
    cases hK9
    exact W.vret hx hb hr (fun t ht hW => ⟨⟨(), rfl, trivial, by rw [ht]; exact hP, hD⟩, hS.F ht⟩) hS.2.2 hdg hlocks
  generalize MQ below (Qv0 G A (wX4 G ad fz)) args s 0 0 A = Q at hRet ⊢
  have lk25 := hts (.fieldLink RX4 25 "FeatherShares$Tape" "token" "I") (by decide +kernel)
  have inX4 : ∀ w ∈ u_ws RX4 TX4 6, w ∈ wsX4_nextToken := by decide +kernel
  have lk19 := hts (.fieldLink RX4 19 "FeatherShares$Tape" "place" "I") (by decide +kernel)
  have lk22 := hts (.fieldLink RX4 22 "FeatherShares$Tape" "tokenStart" "I") (by decide +kernel)
  have lk15 := hts (.fieldLink RX4 15 "FeatherShares$Tape" "length" "I") (by decide +kernel)
  have lk9 := hts (.fieldLink RX4 9 "FeatherShares$Tape" "bytes" "[I") (by decide +kernel)
  have hl : lv_has ls 1 [(0, .ref (ad 0))] := hl
  have hK0 : fz = fz := rfl
  have hB129 : ∀ (f : Mem) (s0 : Int32) (res : Mem) (hf : p_X4_nextToken_B129 f s0 = some res) (hK : res = fz), ∀ (H : Heap) (locs : List Loc) (ls : Array Slot), va_P G.1 vwCl (wX4 G ad f) H → va_D A (wX4 G ad f) → va_S A s.heap H locs → lv_has ls 1 [(0, .ref (ad 0))] → W p l e ({ frames := 3, cells := 0, slots := 0, locals := 52 }) s m args below meth c H locs 0 0 Q (F0 m 129 ls [.int s0, .ref (ad 0)]) := by
    intro f s0 res hf hK H locs ls hP hD hS hl
    unfold p_X4_nextToken_B129 at hf
    refine va_put (C := RX4) (T := TX4) (N := 6) (ci := 4) (ty := .int) (v := .int s0) hx hb hts inX4 tyX4 tyX4_ok nmX4 hown hT hP hD hS 0 rfl rfl 4 (Nat.le_of_ble_eq_true rfl) lk25 (fun _ h => h) rfl (by decide +kernel) rfl rfl (Nat.le_of_ble_eq_true rfl) dX4_nextToken_129 (fun H locs hP hD hS => ?_)
    have hP : va_P G.1 vwCl (wX4 G ad (mset 0 3 s0 f)) H := hP
    have hD : va_D A (wX4 G ad (mset 0 3 s0 f)) := hD
    refine lv_aload_n hx hb dX4_nextToken_132 rfl (lv_at hl 0 rfl) ?_
    refine lv_dup hx hb dX4_nextToken_133 rfl ?_
    refine va_get (C := RX4) (T := TX4) (N := 6) (ci := 4) (v := .int (f 0 1)) hx hb hts inX4 hown hT hP 0 rfl rfl 2 (Nat.le_of_ble_eq_true rfl) lk19 (fun _ h => h) rfl dX4_nextToken_134 ?_
    refine lv_iconst (v := (nI 1)) hx hb dX4_nextToken_137 (ic_1) ?_
    refine lv_iadd hx hb dX4_nextToken_138 ?_
    refine va_put (C := RX4) (T := TX4) (N := 6) (ci := 4) (ty := .int) (v := .int ((f 0 1) + (nI 1))) hx hb hts inX4 tyX4 tyX4_ok nmX4 hown hT hP hD hS 0 rfl rfl 2 (Nat.le_of_ble_eq_true rfl) lk19 (fun _ h => h) rfl (by decide +kernel) rfl rfl (Nat.le_of_ble_eq_true rfl) dX4_nextToken_139 (fun H locs hP hD hS => ?_)
    have hP : va_P G.1 vwCl (wX4 G ad (mset 0 1 ((f 0 1) + (nI 1)) (mset 0 3 s0 f))) H := hP
    have hD : va_D A (wX4 G ad (mset 0 1 ((f 0 1) + (nI 1)) (mset 0 3 s0 f))) := hD
    have hK9 := K0_of hf hK
    exact hRet (mset 0 1 ((f 0 1) + (nI 1)) (mset 0 3 s0 f)) _ _ _ _ hK9 dX4_nextToken_142 hP hD hS
  have hB38 : ∀ (f : Mem) (res : Mem) (hf : p_X4_nextToken_B38 f = some res) (hK : res = fz), ∀ (H : Heap) (locs : List Loc) (ls : Array Slot), va_P G.1 vwCl (wX4 G ad f) H → va_D A (wX4 G ad f) → va_S A s.heap H locs → lv_has ls 1 [(0, .ref (ad 0))] → W p l e ({ frames := 3, cells := 0, slots := 0, locals := 52 }) s m args below meth c H locs 0 0 Q (F0 m 38 ls []) := by
    intro f res hf hK H locs ls hP hD hS hl
    unfold p_X4_nextToken_B38 at hf
    refine lv_aload_n hx hb dX4_nextToken_38 rfl (lv_at hl 0 rfl) ?_
    refine lv_aload_n hx hb dX4_nextToken_39 rfl (lv_at hl 0 rfl) ?_
    refine va_get (C := RX4) (T := TX4) (N := 6) (ci := 4) (v := .int (f 0 1)) hx hb hts inX4 hown hT hP 0 rfl rfl 2 (Nat.le_of_ble_eq_true rfl) lk19 (fun _ h => h) rfl dX4_nextToken_40 ?_
    refine va_put (C := RX4) (T := TX4) (N := 6) (ci := 4) (ty := .int) (v := .int (f 0 1)) hx hb hts inX4 tyX4 tyX4_ok nmX4 hown hT hP hD hS 0 rfl rfl 3 (Nat.le_of_ble_eq_true rfl) lk22 (fun _ h => h) rfl (by decide +kernel) rfl rfl (Nat.le_of_ble_eq_true rfl) dX4_nextToken_43 (fun H locs hP hD hS => ?_)
    have hP : va_P G.1 vwCl (wX4 G ad (mset 0 2 (f 0 1) f)) H := hP
    have hD : va_D A (wX4 G ad (mset 0 2 (f 0 1) f)) := hD
    refine lv_aload_n hx hb dX4_nextToken_46 rfl (lv_at hl 0 rfl) ?_
    refine va_get (C := RX4) (T := TX4) (N := 6) (ci := 4) (v := .int (f 0 1)) hx hb hts inX4 hown hT hP 0 rfl rfl 2 (Nat.le_of_ble_eq_true rfl) lk19 (fun _ h => h) rfl dX4_nextToken_47 ?_
    refine lv_aload_n hx hb dX4_nextToken_50 rfl (lv_at hl 0 rfl) ?_
    refine va_get (C := RX4) (T := TX4) (N := 6) (ci := 4) (v := .int (f 0 0)) hx hb hts inX4 hown hT hP 0 rfl rfl 1 (Nat.le_of_ble_eq_true rfl) lk15 (fun _ h => h) rfl dX4_nextToken_51 ?_
    refine lv_icmp_lt (tgt := 65) hx hb dX4_nextToken_54 (by decide) (fun hc => ?_) (fun hc => ?_)
    · have hf := if_t hf hc
      refine lv_aload_n hx hb dX4_nextToken_65 rfl (lv_at hl 0 rfl) ?_
      refine va_get (C := RX4) (T := TX4) (N := 6) (ci := 4) (v := .ref (ad 1)) hx hb hts inX4 hown hT hP 0 rfl rfl 0 (Nat.le_of_ble_eq_true rfl) lk9 (fun _ h => h) rfl dX4_nextToken_66 ?_
      refine lv_aload_n hx hb dX4_nextToken_69 rfl (lv_at hl 0 rfl) ?_
      refine va_get (C := RX4) (T := TX4) (N := 6) (ci := 4) (v := .int (f 0 1)) hx hb hts inX4 hown hT hP 0 rfl rfl 2 (Nat.le_of_ble_eq_true rfl) lk19 (fun _ h => h) rfl dX4_nextToken_70 ?_
      obtain ⟨hg, hf⟩ := gd_e hf
      refine va_iald (f := f 1) hx hb hT hP 1 0 rfl rfl (inb_e hg) dX4_nextToken_73 ?_
      obtain ⟨r74, hc74, hf⟩ := bd_e hf
      refine cl_z_ro (Wd := (wX4 G ad (mset 0 2 (f 0 1) f))) (Wc := ([] : va_W)) [] rfl (va_runS (As := [.int (f 1 (f 0 1).toNatClampNeg)]) (rest := []) hC (c_X4_isLetter l G (f 1 (f 0 1).toNatClampNeg) r74 hc74 _) (va_cwS 1 hts gX4_nextToken_X4_isLetter rfl rfl rfl (by decide +kernel) ⟨Nat.le_of_ble_eq_true rfl, Nat.le_of_ble_eq_true rfl⟩) ⟨Pc0_blind, fun U hU hW => Pc0_at (Wd := ([] : va_W)) hE (hP.subm [] rfl) (hD.sub [] (by decide) rfl) hU hW⟩ rfl rfl hl.1 rfl (lv_room (Nat.le_of_ble_eq_true rfl)) dX4_nextToken_74 ⟨Nat.zero_le _, Nat.zero_le _⟩) hS hA hP hD (fun H locs hn74 hP hD hS => ?_)
      refine lv_if_eq (tgt := 87) hx hb dX4_nextToken_77 (by decide) (fun hc => ?_) (fun hc => ?_)
      · have hf := if_t hf hc
        refine lv_aload_n hx hb dX4_nextToken_87 rfl (lv_at hl 0 rfl) ?_
        refine va_get (C := RX4) (T := TX4) (N := 6) (ci := 4) (v := .ref (ad 1)) hx hb hts inX4 hown hT hP 0 rfl rfl 0 (Nat.le_of_ble_eq_true rfl) lk9 (fun _ h => h) rfl dX4_nextToken_88 ?_
        refine lv_aload_n hx hb dX4_nextToken_91 rfl (lv_at hl 0 rfl) ?_
        refine va_get (C := RX4) (T := TX4) (N := 6) (ci := 4) (v := .int (f 0 1)) hx hb hts inX4 hown hT hP 0 rfl rfl 2 (Nat.le_of_ble_eq_true rfl) lk19 (fun _ h => h) rfl dX4_nextToken_92 ?_
        obtain ⟨hg, hf⟩ := gd_e hf
        refine va_iald (f := f 1) hx hb hT hP 1 0 rfl rfl (inb_e hg) dX4_nextToken_95 ?_
        obtain ⟨r96, hc96, hf⟩ := bd_e hf
        refine cl_z_ro (Wd := (wX4 G ad (mset 0 2 (f 0 1) f))) (Wc := ([] : va_W)) [] rfl (va_runS (As := [.int (f 1 (f 0 1).toNatClampNeg)]) (rest := []) hC (c_X4_isFigure l G (f 1 (f 0 1).toNatClampNeg) r96 hc96 _) (va_cwS 1 hts gX4_nextToken_X4_isFigure rfl rfl rfl (by decide +kernel) ⟨Nat.le_of_ble_eq_true rfl, Nat.le_of_ble_eq_true rfl⟩) ⟨Pc0_blind, fun U hU hW => Pc0_at (Wd := ([] : va_W)) hE (hP.subm [] rfl) (hD.sub [] (by decide) rfl) hU hW⟩ rfl rfl hl.1 rfl (lv_room (Nat.le_of_ble_eq_true rfl)) dX4_nextToken_96 ⟨Nat.zero_le _, Nat.zero_le _⟩) hS hA hP hD (fun H locs hn96 hP hD hS => ?_)
        refine lv_if_eq (tgt := 109) hx hb dX4_nextToken_99 (by decide) (fun hc => ?_) (fun hc => ?_)
        · have hf := if_t hf hc
          refine lv_aload_n hx hb dX4_nextToken_109 rfl (lv_at hl 0 rfl) ?_
          refine lv_aload_n hx hb dX4_nextToken_110 rfl (lv_at hl 0 rfl) ?_
          refine va_get (C := RX4) (T := TX4) (N := 6) (ci := 4) (v := .ref (ad 1)) hx hb hts inX4 hown hT hP 0 rfl rfl 0 (Nat.le_of_ble_eq_true rfl) lk9 (fun _ h => h) rfl dX4_nextToken_111 ?_
          refine lv_aload_n hx hb dX4_nextToken_114 rfl (lv_at hl 0 rfl) ?_
          refine va_get (C := RX4) (T := TX4) (N := 6) (ci := 4) (v := .int (f 0 1)) hx hb hts inX4 hown hT hP 0 rfl rfl 2 (Nat.le_of_ble_eq_true rfl) lk19 (fun _ h => h) rfl dX4_nextToken_115 ?_
          obtain ⟨hg, hf⟩ := gd_e hf
          refine va_iald (f := f 1) hx hb hT hP 1 0 rfl rfl (inb_e hg) dX4_nextToken_118 ?_
          refine lv_bipush (v := (nI 59)) hx hb dX4_nextToken_119 (bi_59) ?_
          refine lv_icmp_ne (tgt := 128) hx hb dX4_nextToken_121 (by decide) (fun hc => ?_) (fun hc => ?_)
          · have hf := if_f hf hc
            refine lv_iconst (v := (nI 4)) hx hb dX4_nextToken_128 (ic_4) ?_
            exact hB129 (mset 0 2 (f 0 1) f) (nI 4) _ hf hK _ _ _ hP hD hS (lv_sub hl [0] rfl)
          · have hf := if_t hf hc
            refine lv_iconst (v := (nI 3)) hx hb dX4_nextToken_124 (ic_3) ?_
            refine lv_goto (tgt := 129) hx hb dX4_nextToken_125 (by decide) ?_
            exact hB129 (mset 0 2 (f 0 1) f) (nI 3) _ hf hK _ _ _ hP hD hS (lv_sub hl [0] rfl)
        · have hf := if_f hf hc
          refine lv_aload_n hx hb dX4_nextToken_102 rfl (lv_at hl 0 rfl) ?_
          obtain ⟨f_103, hc103, hf⟩ := bd_e hf
          refine cl_v_same (Wd := (wX4 G ad (mset 0 2 (f 0 1) f))) (W' := (wX4 G ad f_103)) (va_runV (As := []) (rest := []) hC (c_X4_takeNumber l G ad (mset 0 2 (f 0 1) f) f_103 hc103 _) (cwV 0 hts gX4_nextToken_X4_takeNumber rfl rfl rfl (by decide +kernel) ⟨Nat.le_of_ble_eq_true rfl, Nat.le_of_ble_eq_true rfl⟩) ⟨Pc0_blind, va_recv hT hP (q0 := 0) (ci := 4) rfl rfl, fun U hU hW => Pc0_at hE hP hD hU hW⟩ rfl rfl hl.1 rfl (lv_room (Nat.le_of_ble_eq_true rfl)) dX4_nextToken_103 ⟨Nat.zero_le _, Nat.zero_le _⟩) hS hA hD (fun H locs hP hD hS => ?_)
          refine lv_goto (tgt := 142) hx hb dX4_nextToken_106 (by decide) ?_
          have hK9 := K0_of hf hK
          exact hRet f_103 _ _ _ _ hK9 dX4_nextToken_142 hP hD hS
      · have hf := if_f hf hc
        refine lv_aload_n hx hb dX4_nextToken_80 rfl (lv_at hl 0 rfl) ?_
        obtain ⟨f_81, hc81, hf⟩ := bd_e hf
        refine cl_v_same (Wd := (wX4 G ad (mset 0 2 (f 0 1) f))) (W' := (wX4 G ad f_81)) (va_runV (As := []) (rest := []) hC (c_X4_takeName l G ad (mset 0 2 (f 0 1) f) f_81 hc81 _) (cwV 0 hts gX4_nextToken_X4_takeName rfl rfl rfl (by decide +kernel) ⟨Nat.le_of_ble_eq_true rfl, Nat.le_of_ble_eq_true rfl⟩) ⟨Pc0_blind, va_recv hT hP (q0 := 0) (ci := 4) rfl rfl, fun U hU hW => Pc0_at hE hP hD hU hW⟩ rfl rfl hl.1 rfl (lv_room (Nat.le_of_ble_eq_true rfl)) dX4_nextToken_81 ⟨Nat.zero_le _, Nat.zero_le _⟩) hS hA hD (fun H locs hP hD hS => ?_)
        refine lv_goto (tgt := 142) hx hb dX4_nextToken_84 (by decide) ?_
        have hK9 := K0_of hf hK
        exact hRet f_81 _ _ _ _ hK9 dX4_nextToken_142 hP hD hS
    · have hf := if_f hf hc
      refine lv_aload_n hx hb dX4_nextToken_57 rfl (lv_at hl 0 rfl) ?_
      refine lv_iconst (v := (nI 0)) hx hb dX4_nextToken_58 (ic_0) ?_
      refine va_put (C := RX4) (T := TX4) (N := 6) (ci := 4) (ty := .int) (v := .int (nI 0)) hx hb hts inX4 tyX4 tyX4_ok nmX4 hown hT hP hD hS 0 rfl rfl 4 (Nat.le_of_ble_eq_true rfl) lk25 (fun _ h => h) rfl (by decide +kernel) rfl rfl (Nat.le_of_ble_eq_true rfl) dX4_nextToken_59 (fun H locs hP hD hS => ?_)
      have hP : va_P G.1 vwCl (wX4 G ad (mset 0 3 (nI 0) (mset 0 2 (f 0 1) f))) H := hP
      have hD : va_D A (wX4 G ad (mset 0 3 (nI 0) (mset 0 2 (f 0 1) f))) := hD
      refine lv_goto (tgt := 142) hx hb dX4_nextToken_62 (by decide) ?_
      have hK9 := K0_of hf hK
      exact hRet (mset 0 3 (nI 0) (mset 0 2 (f 0 1) f)) _ _ _ _ hK9 dX4_nextToken_142 hP hD hS
  obtain ⟨res, hres, hK⟩ : ∃ res, p_X4_nextToken f = some res ∧ res = fz := ⟨_, hf, rfl⟩
  clear hf
  have hf := hres
  clear hres
  unfold p_X4_nextToken at hf
  obtain ⟨f_0, hlp, hf⟩ := bd_e hf
  refine lp_W1 (p_X4_nextToken_L0) (fun (f_ : Mem) => ∀ (H : Heap) (locs : List Loc) (ls : Array Slot), va_P G.1 vwCl (wX4 G ad f_) H → va_D A (wX4 G ad f_) → va_S A s.heap H locs → lv_has ls 1 [(0, .ref (ad 0))] → W p l e ({ frames := 3, cells := 0, slots := 0, locals := 52 }) s m args below meth c H locs 0 0 Q (F0 m 0 ls [])) (fun (f_0 : Mem) => ∀ (H : Heap) (locs : List Loc) (ls : Array Slot), va_P G.1 vwCl (wX4 G ad f_0) H → va_D A (wX4 G ad f_0) → va_S A s.heap H locs → lv_has ls 1 [(0, .ref (ad 0))] → W p l e ({ frames := 3, cells := 0, slots := 0, locals := 52 }) s m args below meth c H locs 0 0 Q (F0 m 38 ls [])) ?_ hlp ?_ _ _ _ hP hD hS (lv_sub hl [0] rfl)
  · clear hlp hf hK hP hD hS hl
    intro K0 hW0 hX0 
    rintro f_ res hf hK H locs ls hP hD hS hl
    unfold p_X4_nextToken_L0 at hf
    refine lv_aload_n hx hb dX4_nextToken_0 rfl (lv_at hl 0 rfl) ?_
    refine va_get (C := RX4) (T := TX4) (N := 6) (ci := 4) (v := .int (f_ 0 1)) hx hb hts inX4 hown hT hP 0 rfl rfl 2 (Nat.le_of_ble_eq_true rfl) lk19 (fun _ h => h) rfl dX4_nextToken_1 ?_
    refine lv_aload_n hx hb dX4_nextToken_4 rfl (lv_at hl 0 rfl) ?_
    refine va_get (C := RX4) (T := TX4) (N := 6) (ci := 4) (v := .int (f_ 0 0)) hx hb hts inX4 hown hT hP 0 rfl rfl 1 (Nat.le_of_ble_eq_true rfl) lk15 (fun _ h => h) rfl dX4_nextToken_5 ?_
    refine lv_icmp_ge (tgt := 38) hx hb dX4_nextToken_8 (by decide) (fun hc => ?_) (fun hc => ?_)
    · have hf := if_t hf hc
      have hK9 := K_of hf hK
      have hK9 := hX0 _ hK9
      exact hK9 _ _ _ hP hD hS (lv_sub hl [0] rfl)
    · have hf := if_f hf hc
      refine lv_aload_n hx hb dX4_nextToken_11 rfl (lv_at hl 0 rfl) ?_
      refine va_get (C := RX4) (T := TX4) (N := 6) (ci := 4) (v := .ref (ad 1)) hx hb hts inX4 hown hT hP 0 rfl rfl 0 (Nat.le_of_ble_eq_true rfl) lk9 (fun _ h => h) rfl dX4_nextToken_12 ?_
      refine lv_aload_n hx hb dX4_nextToken_15 rfl (lv_at hl 0 rfl) ?_
      refine va_get (C := RX4) (T := TX4) (N := 6) (ci := 4) (v := .int (f_ 0 1)) hx hb hts inX4 hown hT hP 0 rfl rfl 2 (Nat.le_of_ble_eq_true rfl) lk19 (fun _ h => h) rfl dX4_nextToken_16 ?_
      obtain ⟨hg, hf⟩ := gd_e hf
      refine va_iald (f := f_ 1) hx hb hT hP 1 0 rfl rfl (inb_e hg) dX4_nextToken_19 ?_
      refine lv_bipush (v := (nI 32)) hx hb dX4_nextToken_20 (bi_32) ?_
      refine lv_icmp_ne (tgt := 38) hx hb dX4_nextToken_22 (by decide) (fun hc => ?_) (fun hc => ?_)
      · have hf := if_f hf hc
        have hK9 := K_of hf hK
        have hK9 := hX0 _ hK9
        exact hK9 _ _ _ hP hD hS (lv_sub hl [0] rfl)
      · have hf := if_t hf hc
        refine lv_aload_n hx hb dX4_nextToken_25 rfl (lv_at hl 0 rfl) ?_
        refine lv_dup hx hb dX4_nextToken_26 rfl ?_
        refine va_get (C := RX4) (T := TX4) (N := 6) (ci := 4) (v := .int (f_ 0 1)) hx hb hts inX4 hown hT hP 0 rfl rfl 2 (Nat.le_of_ble_eq_true rfl) lk19 (fun _ h => h) rfl dX4_nextToken_27 ?_
        refine lv_iconst (v := (nI 1)) hx hb dX4_nextToken_30 (ic_1) ?_
        refine lv_iadd hx hb dX4_nextToken_31 ?_
        refine va_put (C := RX4) (T := TX4) (N := 6) (ci := 4) (ty := .int) (v := .int ((f_ 0 1) + (nI 1))) hx hb hts inX4 tyX4 tyX4_ok nmX4 hown hT hP hD hS 0 rfl rfl 2 (Nat.le_of_ble_eq_true rfl) lk19 (fun _ h => h) rfl (by decide +kernel) rfl rfl (Nat.le_of_ble_eq_true rfl) dX4_nextToken_32 (fun H locs hP hD hS => ?_)
        have hP : va_P G.1 vwCl (wX4 G ad (mset 0 1 ((f_ 0 1) + (nI 1)) f_)) H := hP
        have hD : va_D A (wX4 G ad (mset 0 1 ((f_ 0 1) + (nI 1)) f_)) := hD
        refine lv_goto (tgt := 0) hx hb dX4_nextToken_35 (by decide) ?_
        have hK9 := K_of hf hK
        have hK9 := hW0 _ hK9
        exact hK9 _ _ _ hP hD hS (lv_sub hl [0] rfl)
  · try dsimp only at hf
    show ∀ (H : Heap) (locs : List Loc) (ls : Array Slot), va_P G.1 vwCl (wX4 G ad f_0) H → va_D A (wX4 G ad f_0) → va_S A s.heap H locs → lv_has ls 1 [(0, .ref (ad 0))] → W p l e ({ frames := 3, cells := 0, slots := 0, locals := 52 }) s m args below meth c H locs 0 0 Q (F0 m 38 ls [])
    intro H locs ls hP hD hS hl
    exact hB38 f_0 _ hf hK _ _ _ hP hD hS (lv_sub hl [0] rfl)
noncomputable def p_X5_refuse (f : Mem) (x1 : Int32) (x2 : Int32) : Option (Mem) :=
  if (f 0 1) = 0 then
    (some (mset 0 2 x2 (mset 0 1 x1 f)))
  else
    (some f)
set_option maxHeartbeats 4000000 in
set_option maxRecDepth 100000 in
theorem c_X5_refuse (l : Launch) (G : Gt) (ad : Nat → Nat) (add : Nat → Nat) (f : Mem) (x1 : Int32) (x2 : Int32) (fz : Mem) (hf : p_X5_refuse f x1 x2 = some fz) (sz : Nat) : Met l yX5_refuse wsX5_refuse ({ frames := 1, cells := 0, slots := 0, locals := 12 }) (Pc0 G sz [.ref (ad 0), .int x1, .int x2] (wX5 G ad (add 0) f)) (Qv0 G (va_A (wX5 G ad (add 0) f) sz) (wX5 G ad (add 0) fz)) 0 0 (va_A (wX5 G ad (add 0) f) sz) := by
  refine metP (Qf := fun A => Qv0 G A (wX5 G ad (add 0) fz)) cX5_refuse 3 (none) (by decide) rfl (Nat.le_of_ble_eq_true rfl) ?_
  intro p e s m below meth c A ls hC hr hlocks hin hE hA hsz hP hD hS hl
  generalize hargs : ([.ref (ad 0), .int x1, .int x2] : List Value).toArray = args at hC ⊢
  obtain ⟨hx, hb, hml, hown, hts⟩ := id hC
  have hT : va_K G.1 vwCl (tyL G) s := hE.1
  have hRet : ∀ (f9 : Mem) (H : Heap) (locs : List Loc) (ls : Array Slot) (pc : Nat) (hK9 : f9 = fz) (hdg : decode cX5_refuse pc = .ok (.return_, 1)), va_P G.1 vwCl (wX5 G ad (add 0) f9) H → va_D A (wX5 G ad (add 0) f9) → va_S A s.heap H locs → W p l e ({ frames := 1, cells := 0, slots := 0, locals := 12 }) s m args below meth c H locs 0 0 (MQ below (Qv0 G A (wX5 G ad (add 0) fz)) args s 0 0 A) (F0 m pc ls []) := by
    intro f9 H locs ls pc hK9 hdg hP hD hS
    cases hK9
    exact W.vret hx hb hr (fun t ht hW => ⟨⟨(), rfl, trivial, by rw [ht]; exact hP, hD⟩, hS.F ht⟩) hS.2.2 hdg hlocks
  generalize MQ below (Qv0 G A (wX5 G ad (add 0) fz)) args s 0 0 A = Q at hRet ⊢
  have lk22 := hts (.fieldLink RX5 22 "FeatherShares$TextReader" "faultFound" "I") (by decide +kernel)
  have inX5 : ∀ w ∈ u_ws RX5 TX5 7, w ∈ wsX5_refuse := by decide +kernel
  have lk25 := hts (.fieldLink RX5 25 "FeatherShares$TextReader" "faultPlace" "I") (by decide +kernel)
  have hl : lv_has ls 3 [(0, .ref (ad 0)), (1, .int x1), (2, .int x2)] := hl
  have hK0 : fz = fz := rfl
  obtain ⟨res, hres, hK⟩ : ∃ res, p_X5_refuse f x1 x2 = some res ∧ res = fz := ⟨_, hf, rfl⟩
  clear hf
  have hf := hres
  clear hres
  unfold p_X5_refuse at hf
  refine lv_aload_n hx hb dX5_refuse_0 rfl (lv_at hl 0 rfl) ?_
  refine va_get (C := RX5) (T := TX5) (N := 7) (ci := 5) (v := .int (f 0 1)) hx hb hts inX5 hown hT hP 0 rfl rfl 2 (Nat.le_of_ble_eq_true rfl) lk22 (fun _ h => h) rfl dX5_refuse_1 ?_
  refine lv_if_ne (tgt := 17) hx hb dX5_refuse_4 (by decide) (fun hc => ?_) (fun hc => ?_)
  · have hf := if_f hf hc
    have hK9 := K0_of hf hK
    exact hRet f _ _ _ _ hK9 dX5_refuse_17 hP hD hS
  · have hf := if_t hf hc
    refine lv_aload_n hx hb dX5_refuse_7 rfl (lv_at hl 0 rfl) ?_
    refine lv_iload_n hx hb dX5_refuse_8 rfl (lv_at hl 1 rfl) ?_
    refine va_put (C := RX5) (T := TX5) (N := 7) (ci := 5) (ty := .int) (v := .int x1) hx hb hts inX5 tyX5 tyX5_ok nmX5 hown hT hP hD hS 0 rfl rfl 2 (Nat.le_of_ble_eq_true rfl) lk22 (fun _ h => h) rfl (by decide +kernel) rfl rfl (Nat.le_of_ble_eq_true rfl) dX5_refuse_9 (fun H locs hP hD hS => ?_)
    have hP : va_P G.1 vwCl (wX5 G ad (add 0) (mset 0 1 x1 f)) H := hP
    have hD : va_D A (wX5 G ad (add 0) (mset 0 1 x1 f)) := hD
    refine lv_aload_n hx hb dX5_refuse_12 rfl (lv_at hl 0 rfl) ?_
    refine lv_iload_n hx hb dX5_refuse_13 rfl (lv_at hl 2 rfl) ?_
    refine va_put (C := RX5) (T := TX5) (N := 7) (ci := 5) (ty := .int) (v := .int x2) hx hb hts inX5 tyX5 tyX5_ok nmX5 hown hT hP hD hS 0 rfl rfl 3 (Nat.le_of_ble_eq_true rfl) lk25 (fun _ h => h) rfl (by decide +kernel) rfl rfl (Nat.le_of_ble_eq_true rfl) dX5_refuse_14 (fun H locs hP hD hS => ?_)
    have hP : va_P G.1 vwCl (wX5 G ad (add 0) (mset 0 2 x2 (mset 0 1 x1 f))) H := hP
    have hD : va_D A (wX5 G ad (add 0) (mset 0 2 x2 (mset 0 1 x1 f))) := hD
    have hK9 := K0_of hf hK
    exact hRet (mset 0 2 x2 (mset 0 1 x1 f)) _ _ _ _ hK9 dX5_refuse_17 hP hD hS
noncomputable def p_X5_refuseOther (f : Mem) (fo1 : Mem) (x2 : Int32) : Option (Mem) :=
  if (fo1 0 3) = (nI 4) then
    (Option.bind (p_X5_refuse f (nI 1) (fo1 0 2)) <| fun f_14 =>
     some f_14)
  else
    (if (fo1 0 3) = x2 then
       (some f)
     else
       (Option.bind (p_X5_refuse f (nI 2) (fo1 0 2)) <| fun f_34 =>
        some f_34))
set_option maxHeartbeats 4000000 in
set_option maxRecDepth 100000 in
theorem c_X5_refuseOther (l : Launch) (G : Gt) (ad : Nat → Nat) (add : Nat → Nat) (ao1 : Nat → Nat) (f : Mem) (fo1 : Mem) (x2 : Int32) (fz : Mem) (hf : p_X5_refuseOther f fo1 x2 = some fz) (sz : Nat) : Met l yX5_refuseOther wsX5_refuseOther ({ frames := 2, cells := 0, slots := 0, locals := 34 }) (Pc0 G sz [.ref (ad 0), .ref (ao1 0), .int x2] (wX5 G ad (add 0) f ++ (wX4 G ao1 fo1))) (Qv0 G (va_A (wX5 G ad (add 0) f ++ (wX4 G ao1 fo1)) sz) (wX5 G ad (add 0) fz ++ (wX4 G ao1 fo1))) 0 0 (va_A (wX5 G ad (add 0) f ++ (wX4 G ao1 fo1)) sz) := by
  refine metP (Qf := fun A => Qv0 G A (wX5 G ad (add 0) fz ++ (wX4 G ao1 fo1))) cX5_refuseOther 3 (none) (by decide) rfl (Nat.le_of_ble_eq_true rfl) ?_
  intro p e s m below meth c A ls hC hr hlocks hin hE hA hsz hP hD hS hl
  generalize hargs : ([.ref (ad 0), .ref (ao1 0), .int x2] : List Value).toArray = args at hC ⊢
  obtain ⟨hx, hb, hml, hown, hts⟩ := id hC
  have hT : va_K G.1 vwCl (tyL G) s := hE.1
  have hRet : ∀ (f9 : Mem) (H : Heap) (locs : List Loc) (ls : Array Slot) (pc : Nat) (hK9 : f9 = fz) (hdg : decode cX5_refuseOther pc = .ok (.return_, 1)), va_P G.1 vwCl (wX5 G ad (add 0) f9 ++ (wX4 G ao1 fo1)) H → va_D A (wX5 G ad (add 0) f9 ++ (wX4 G ao1 fo1)) → va_S A s.heap H locs → W p l e ({ frames := 2, cells := 0, slots := 0, locals := 34 }) s m args below meth c H locs 0 0 (MQ below (Qv0 G A (wX5 G ad (add 0) fz ++ (wX4 G ao1 fo1))) args s 0 0 A) (F0 m pc ls []) := by
    intro f9 H locs ls pc hK9 hdg hP hD hS
    cases hK9
    exact W.vret hx hb hr (fun t ht hW => ⟨⟨(), rfl, trivial, by rw [ht]; exact hP, hD⟩, hS.F ht⟩) hS.2.2 hdg hlocks
  generalize MQ below (Qv0 G A (wX5 G ad (add 0) fz ++ (wX4 G ao1 fo1))) args s 0 0 A = Q at hRet ⊢
  have lk62 := va_Nw.use (A := args) rfl (hE.2.1 (RX5, 62, "FeatherShares$Tape", "token", "I", "FeatherShares") (List.mem_of_getElem? (i := 30) rfl))
  have inX4 : ∀ w ∈ u_ws RX4 TX4 6, w ∈ wsX5_refuseOther := by decide +kernel
  have lk65 := va_Nw.use (A := args) rfl (hE.2.1 (RX5, 65, "FeatherShares$Tape", "tokenStart", "I", "FeatherShares") (List.mem_of_getElem? (i := 31) rfl))
  have hl : lv_has ls 3 [(0, .ref (ad 0)), (1, .ref (ao1 0)), (2, .int x2)] := hl
  have hK0 : fz = fz := rfl
  obtain ⟨res, hres, hK⟩ : ∃ res, p_X5_refuseOther f fo1 x2 = some res ∧ res = fz := ⟨_, hf, rfl⟩
  clear hf
  have hf := hres
  clear hres
  unfold p_X5_refuseOther at hf
  refine lv_aload_n hx hb dX5_refuseOther_0 rfl (lv_at hl 1 rfl) ?_
  refine va_getN (C := RX4) (T := TX4) (N := 6) (ci := 4) (v := .int (fo1 0 3)) hx hb hts inX4 hown hT hP 1 rfl rfl 4 (Nat.le_of_ble_eq_true rfl) lk62 (fun _ h => h) rfl dX5_refuseOther_1 ?_
  refine lv_iconst (v := (nI 4)) hx hb dX5_refuseOther_4 (ic_4) ?_
  refine lv_icmp_ne (tgt := 20) hx hb dX5_refuseOther_5 (by decide) (fun hc => ?_) (fun hc => ?_)
  · have hf := if_f hf hc
    refine lv_aload_n hx hb dX5_refuseOther_20 rfl (lv_at hl 1 rfl) ?_
    refine va_getN (C := RX4) (T := TX4) (N := 6) (ci := 4) (v := .int (fo1 0 3)) hx hb hts inX4 hown hT hP 1 rfl rfl 4 (Nat.le_of_ble_eq_true rfl) lk62 (fun _ h => h) rfl dX5_refuseOther_21 ?_
    refine lv_iload_n hx hb dX5_refuseOther_24 rfl (lv_at hl 2 rfl) ?_
    refine lv_icmp_eq (tgt := 37) hx hb dX5_refuseOther_25 (by decide) (fun hc => ?_) (fun hc => ?_)
    · have hf := if_t hf hc
      have hK9 := K0_of hf hK
      exact hRet f _ _ _ _ hK9 dX5_refuseOther_37 hP hD hS
    · have hf := if_f hf hc
      refine lv_aload_n hx hb dX5_refuseOther_28 rfl (lv_at hl 0 rfl) ?_
      refine lv_iconst (v := (nI 2)) hx hb dX5_refuseOther_29 (ic_2) ?_
      refine lv_aload_n hx hb dX5_refuseOther_30 rfl (lv_at hl 1 rfl) ?_
      refine va_getN (C := RX4) (T := TX4) (N := 6) (ci := 4) (v := .int (fo1 0 2)) hx hb hts inX4 hown hT hP 1 rfl rfl 3 (Nat.le_of_ble_eq_true rfl) lk65 (fun _ h => h) rfl dX5_refuseOther_31 ?_
      obtain ⟨f_34, hc34, hf⟩ := bd_e hf
      refine cl_v_up (Wd := (wX5 G ad (add 0) f ++ (wX4 G ao1 fo1))) (Wc := (wX5 G ad (add 0) f)) (W' := (wX5 G ad (add 0) f_34)) (W2 := (wX5 G ad (add 0) f_34 ++ (wX4 G ao1 fo1))) (Wr := (wX4 G ao1 fo1)) [0] [1, 2] rfl rfl rfl rfl rfl rfl (va_runV (As := [.int (nI 2), .int (fo1 0 2)]) (rest := []) hC (c_X5_refuse l G ad add f (nI 2) (fo1 0 2) f_34 hc34 _) (cwV 2 hts gX5_refuseOther_X5_refuse rfl rfl rfl (by decide +kernel) ⟨Nat.le_of_ble_eq_true rfl, Nat.le_of_ble_eq_true rfl⟩) ⟨Pc0_blind, va_recv hT hP (q0 := 0) (ci := 5) rfl rfl, fun U hU hW => Pc0_at (Wd := (wX5 G ad (add 0) f)) hE (hP.subm [0] rfl) (hD.sub [0] (by decide) rfl) hU hW⟩ rfl rfl hl.1 rfl (lv_room (Nat.le_of_ble_eq_true rfl)) dX5_refuseOther_34 ⟨Nat.zero_le _, Nat.zero_le _⟩) hS hA hP hD (fun H locs hP hD hS => ?_)
      have hK9 := K0_of hf hK
      exact hRet f_34 _ _ _ _ hK9 dX5_refuseOther_37 hP hD hS
  · have hf := if_t hf hc
    refine lv_aload_n hx hb dX5_refuseOther_8 rfl (lv_at hl 0 rfl) ?_
    refine lv_iconst (v := (nI 1)) hx hb dX5_refuseOther_9 (ic_1) ?_
    refine lv_aload_n hx hb dX5_refuseOther_10 rfl (lv_at hl 1 rfl) ?_
    refine va_getN (C := RX4) (T := TX4) (N := 6) (ci := 4) (v := .int (fo1 0 2)) hx hb hts inX4 hown hT hP 1 rfl rfl 3 (Nat.le_of_ble_eq_true rfl) lk65 (fun _ h => h) rfl dX5_refuseOther_11 ?_
    obtain ⟨f_14, hc14, hf⟩ := bd_e hf
    refine cl_v_up (Wd := (wX5 G ad (add 0) f ++ (wX4 G ao1 fo1))) (Wc := (wX5 G ad (add 0) f)) (W' := (wX5 G ad (add 0) f_14)) (W2 := (wX5 G ad (add 0) f_14 ++ (wX4 G ao1 fo1))) (Wr := (wX4 G ao1 fo1)) [0] [1, 2] rfl rfl rfl rfl rfl rfl (va_runV (As := [.int (nI 1), .int (fo1 0 2)]) (rest := []) hC (c_X5_refuse l G ad add f (nI 1) (fo1 0 2) f_14 hc14 _) (cwV 2 hts gX5_refuseOther_X5_refuse rfl rfl rfl (by decide +kernel) ⟨Nat.le_of_ble_eq_true rfl, Nat.le_of_ble_eq_true rfl⟩) ⟨Pc0_blind, va_recv hT hP (q0 := 0) (ci := 5) rfl rfl, fun U hU hW => Pc0_at (Wd := (wX5 G ad (add 0) f)) hE (hP.subm [0] rfl) (hD.sub [0] (by decide) rfl) hU hW⟩ rfl rfl hl.1 rfl (lv_room (Nat.le_of_ble_eq_true rfl)) dX5_refuseOther_14 ⟨Nat.zero_le _, Nat.zero_le _⟩) hS hA hP hD (fun H locs hP hD hS => ?_)
    refine lv_goto (tgt := 37) hx hb dX5_refuseOther_17 (by decide) ?_
    have hK9 := K0_of hf hK
    exact hRet f_14 _ _ _ _ hK9 dX5_refuseOther_37 hP hD hS
noncomputable def p_X5_nextNumber_B47 (f : Mem) (fo1 : Mem) (x2 : Int32) : Option (Int32 × Mem × Mem) :=
  if (f 0 1) = 0 then
    (some ((fo1 0 4), f, fo1))
  else
    (some (x2, f, fo1))
noncomputable def p_X5_nextNumber (f : Mem) (fo1 : Mem) (x2 : Int32) (x3 : Int32) : Option (Int32 × Mem × Mem) :=
  if (f 0 1) = 0 then
    (Option.bind (p_X4_nextToken fo1) <| fun fo1_10 =>
     Option.bind (p_X5_refuseOther f fo1_10 (nI 2)) <| fun f_16 =>
     if (f_16 0 1) = 0 then
       (Option.bind (p_X6_isWithin (fo1_10 0 4) x2 x3) <| fun r32 =>
        if r32 = 0 then
          (Option.bind (p_X5_refuse f_16 (nI 3) (fo1_10 0 2)) <| fun f_44 =>
           p_X5_nextNumber_B47 f_44 fo1_10 x2)
        else
          (p_X5_nextNumber_B47 f_16 fo1_10 x2))
     else
       (p_X5_nextNumber_B47 f_16 fo1_10 x2))
  else
    (some (x2, f, fo1))
set_option maxHeartbeats 4000000 in
set_option maxRecDepth 100000 in
theorem c_X5_nextNumber (l : Launch) (G : Gt) (ad : Nat → Nat) (add : Nat → Nat) (ao1 : Nat → Nat) (f : Mem) (fo1 : Mem) (x2 : Int32) (x3 : Int32) (r : Int32) (fz : Mem) (fo1z : Mem) (hf : p_X5_nextNumber f fo1 x2 x3 = some (r, fz, fo1z)) (sz : Nat) : Met l yX5_nextNumber wsX5_nextNumber ({ frames := 4, cells := 0, slots := 0, locals := 72 }) (Pc0 G sz [.ref (ad 0), .ref (ao1 0), .int x2, .int x3] (wX5 G ad (add 0) f ++ (wX4 G ao1 fo1))) (Qi0 G (va_A (wX5 G ad (add 0) f ++ (wX4 G ao1 fo1)) sz) r (wX5 G ad (add 0) fz ++ (wX4 G ao1 fo1z))) 0 0 (va_A (wX5 G ad (add 0) f ++ (wX4 G ao1 fo1)) sz) := by
  refine metP (Qf := fun A => Qi0 G A r (wX5 G ad (add 0) fz ++ (wX4 G ao1 fo1z))) cX5_nextNumber 4 (some .int) (by decide) rfl (Nat.le_of_ble_eq_true rfl) ?_
  intro p e s m below meth c A ls hC hr hlocks hin hE hA hsz hP hD hS hl
  generalize hargs : ([.ref (ad 0), .ref (ao1 0), .int x2, .int x3] : List Value).toArray = args at hC ⊢
  obtain ⟨hx, hb, hml, hown, hts⟩ := id hC
  have hT : va_K G.1 vwCl (tyL G) s := hE.1
  have hRet : ∀ (r9 : Int32) (f9 : Mem) (fo19 : Mem) (H : Heap) (locs : List Loc) (ls : Array Slot) (pc : Nat) (hK9 : (r9, f9, fo19) = (r, fz, fo1z)) (hdg : decode cX5_nextNumber pc = .ok (.ireturn, 1)), va_P G.1 vwCl (wX5 G ad (add 0) f9 ++ (wX4 G ao1 fo19)) H → va_D A (wX5 G ad (add 0) f9 ++ (wX4 G ao1 fo19)) → va_S A s.heap H locs → W p l e ({ frames := 4, cells := 0, slots := 0, locals := 72 }) s m args below meth c H locs 0 0 (MQ below (Qi0 G A r (wX5 G ad (add 0) fz ++ (wX4 G ao1 fo1z))) args s 0 0 A) (F0 m pc ls [.int r9]) := by
    intro r9 f9 fo19 H locs ls pc hK9 hdg hP hD hS
    cases hK9
    exact W.iret hx hb hr (fun t ht hW => ⟨⟨r, (), rfl, rfl, by rw [ht]; exact hP, hD⟩, hS.F ht⟩) hS.2.2 hdg hlocks
  generalize MQ below (Qi0 G A r (wX5 G ad (add 0) fz ++ (wX4 G ao1 fo1z))) args s 0 0 A = Q at hRet ⊢
  have lk22 := hts (.fieldLink RX5 22 "FeatherShares$TextReader" "faultFound" "I") (by decide +kernel)
  have inX5 : ∀ w ∈ u_ws RX5 TX5 7, w ∈ wsX5_nextNumber := by decide +kernel
  have lk131 := va_Nw.use (A := args) rfl (hE.2.1 (RX5, 131, "FeatherShares$Tape", "value", "I", "FeatherShares") (List.mem_of_getElem? (i := 35) rfl))
  have inX4 : ∀ w ∈ u_ws RX4 TX4 6, w ∈ wsX5_nextNumber := by decide +kernel
  have lk65 := va_Nw.use (A := args) rfl (hE.2.1 (RX5, 65, "FeatherShares$Tape", "tokenStart", "I", "FeatherShares") (List.mem_of_getElem? (i := 31) rfl))
  have hl : lv_has ls 4 [(0, .ref (ad 0)), (1, .ref (ao1 0)), (2, .int x2), (3, .int x3)] := hl
  have hK0 : (r, fz, fo1z) = (r, fz, fo1z) := rfl
  have hB47 : ∀ (f : Mem) (fo1 : Mem) (x2 : Int32) (res : Int32 × Mem × Mem) (hf : p_X5_nextNumber_B47 f fo1 x2 = some res) (hK : res = (r, fz, fo1z)), ∀ (H : Heap) (locs : List Loc) (ls : Array Slot), va_P G.1 vwCl (wX5 G ad (add 0) f ++ (wX4 G ao1 fo1)) H → va_D A (wX5 G ad (add 0) f ++ (wX4 G ao1 fo1)) → va_S A s.heap H locs → lv_has ls 4 [(0, .ref (ad 0)), (1, .ref (ao1 0)), (2, .int x2)] → W p l e ({ frames := 4, cells := 0, slots := 0, locals := 72 }) s m args below meth c H locs 0 0 Q (F0 m 47 ls []) := by
    intro f fo1 x2 res hf hK H locs ls hP hD hS hl
    unfold p_X5_nextNumber_B47 at hf
    refine lv_aload_n hx hb dX5_nextNumber_47 rfl (lv_at hl 0 rfl) ?_
    refine va_get (C := RX5) (T := TX5) (N := 7) (ci := 5) (v := .int (f 0 1)) hx hb hts inX5 hown hT hP 0 rfl rfl 2 (Nat.le_of_ble_eq_true rfl) lk22 (fun _ h => h) rfl dX5_nextNumber_48 ?_
    refine lv_if_ne (tgt := 61) hx hb dX5_nextNumber_51 (by decide) (fun hc => ?_) (fun hc => ?_)
    · have hf := if_f hf hc
      refine lv_iload_n hx hb dX5_nextNumber_61 rfl (lv_at hl 2 rfl) ?_
      have hK9 := K0_of hf hK
      exact hRet x2 f fo1 _ _ _ _ hK9 dX5_nextNumber_62 hP hD hS
    · have hf := if_t hf hc
      refine lv_aload_n hx hb dX5_nextNumber_54 rfl (lv_at hl 1 rfl) ?_
      refine va_getN (C := RX4) (T := TX4) (N := 6) (ci := 4) (v := .int (fo1 0 4)) hx hb hts inX4 hown hT hP 1 rfl rfl 5 (Nat.le_of_ble_eq_true rfl) lk131 (fun _ h => h) rfl dX5_nextNumber_55 ?_
      refine lv_goto (tgt := 62) hx hb dX5_nextNumber_58 (by decide) ?_
      have hK9 := K0_of hf hK
      exact hRet (fo1 0 4) f fo1 _ _ _ _ hK9 dX5_nextNumber_62 hP hD hS
  obtain ⟨res, hres, hK⟩ : ∃ res, p_X5_nextNumber f fo1 x2 x3 = some res ∧ res = (r, fz, fo1z) := ⟨_, hf, rfl⟩
  clear hf
  have hf := hres
  clear hres
  unfold p_X5_nextNumber at hf
  refine lv_aload_n hx hb dX5_nextNumber_0 rfl (lv_at hl 0 rfl) ?_
  refine va_get (C := RX5) (T := TX5) (N := 7) (ci := 5) (v := .int (f 0 1)) hx hb hts inX5 hown hT hP 0 rfl rfl 2 (Nat.le_of_ble_eq_true rfl) lk22 (fun _ h => h) rfl dX5_nextNumber_1 ?_
  refine lv_if_eq (tgt := 9) hx hb dX5_nextNumber_4 (by decide) (fun hc => ?_) (fun hc => ?_)
  · have hf := if_t hf hc
    refine lv_aload_n hx hb dX5_nextNumber_9 rfl (lv_at hl 1 rfl) ?_
    obtain ⟨fo1_10, hc10, hf⟩ := bd_e hf
    refine cl_v_up (Wd := (wX5 G ad (add 0) f ++ (wX4 G ao1 fo1))) (Wc := (wX4 G ao1 fo1)) (W' := (wX4 G ao1 fo1_10)) (W2 := (wX5 G ad (add 0) f ++ (wX4 G ao1 fo1_10))) (Wr := (wX5 G ad (add 0) f)) [1, 2] [0] rfl rfl rfl rfl rfl rfl (va_runVN (As := []) (rest := []) hC (c_X4_nextToken l G ao1 fo1 fo1_10 hc10 _) ⟨va_cnB 0 hts gX5_nextNumber_X4_nextToken_n59 rfl rfl rfl (hE.2.2 (RX5, 59, yX4_nextToken, "FeatherShares") (List.mem_of_getElem? (i := 52) rfl)) (hts (.initialized RX4) (by decide +kernel)) (by decide +kernel) ⟨Nat.le_of_ble_eq_true rfl, Nat.le_of_ble_eq_true rfl⟩, hts (.instanceMethod yX4_nextToken) (by decide +kernel), hts (.selects RX4 yX4_nextToken yX4_nextToken) (by decide +kernel)⟩ ⟨Pc0_blind, va_recv hT hP (q0 := 1) (ci := 4) rfl rfl, fun U hU hW => Pc0_at (Wd := (wX4 G ao1 fo1)) hE (hP.subm [1, 2] rfl) (hD.sub [1, 2] (by decide) rfl) hU hW⟩ rfl rfl hl.1 rfl (lv_room (Nat.le_of_ble_eq_true rfl)) dX5_nextNumber_10 ⟨Nat.zero_le _, Nat.zero_le _⟩) hS hA hP hD (fun H locs hP hD hS => ?_)
    refine lv_aload_n hx hb dX5_nextNumber_13 rfl (lv_at hl 0 rfl) ?_
    refine lv_aload_n hx hb dX5_nextNumber_14 rfl (lv_at hl 1 rfl) ?_
    refine lv_iconst (v := (nI 2)) hx hb dX5_nextNumber_15 (ic_2) ?_
    obtain ⟨f_16, hc16, hf⟩ := bd_e hf
    refine cl_v_same (Wd := (wX5 G ad (add 0) f ++ (wX4 G ao1 fo1_10))) (W' := (wX5 G ad (add 0) f_16 ++ (wX4 G ao1 fo1_10))) (va_runV (As := [.ref (ao1 0), .int (nI 2)]) (rest := []) hC (c_X5_refuseOther l G ad add ao1 f fo1_10 (nI 2) f_16 hc16 _) (cwV 2 hts gX5_nextNumber_X5_refuseOther rfl rfl rfl (by decide +kernel) ⟨Nat.le_of_ble_eq_true rfl, Nat.le_of_ble_eq_true rfl⟩) ⟨Pc0_blind, va_recv hT hP (q0 := 0) (ci := 5) rfl rfl, fun U hU hW => Pc0_at hE hP hD hU hW⟩ rfl rfl hl.1 rfl (lv_room (Nat.le_of_ble_eq_true rfl)) dX5_nextNumber_16 ⟨Nat.zero_le _, Nat.zero_le _⟩) hS hA hD (fun H locs hP hD hS => ?_)
    refine lv_aload_n hx hb dX5_nextNumber_19 rfl (lv_at hl 0 rfl) ?_
    refine va_get (C := RX5) (T := TX5) (N := 7) (ci := 5) (v := .int (f_16 0 1)) hx hb hts inX5 hown hT hP 0 rfl rfl 2 (Nat.le_of_ble_eq_true rfl) lk22 (fun _ h => h) rfl dX5_nextNumber_20 ?_
    refine lv_if_ne (tgt := 47) hx hb dX5_nextNumber_23 (by decide) (fun hc => ?_) (fun hc => ?_)
    · have hf := if_f hf hc
      exact hB47 f_16 fo1_10 x2 _ hf hK _ _ _ hP hD hS (lv_sub hl [0, 1, 2] rfl)
    · have hf := if_t hf hc
      refine lv_aload_n hx hb dX5_nextNumber_26 rfl (lv_at hl 1 rfl) ?_
      refine va_getN (C := RX4) (T := TX4) (N := 6) (ci := 4) (v := .int (fo1_10 0 4)) hx hb hts inX4 hown hT hP 1 rfl rfl 5 (Nat.le_of_ble_eq_true rfl) lk131 (fun _ h => h) rfl dX5_nextNumber_27 ?_
      refine lv_iload_n hx hb dX5_nextNumber_30 rfl (lv_at hl 2 rfl) ?_
      refine lv_iload_n hx hb dX5_nextNumber_31 rfl (lv_at hl 3 rfl) ?_
      obtain ⟨r32, hc32, hf⟩ := bd_e hf
      refine cl_z_ro (Wd := (wX5 G ad (add 0) f_16 ++ (wX4 G ao1 fo1_10))) (Wc := ([] : va_W)) [] rfl (va_runSN (As := [.int (fo1_10 0 4), .int x2, .int x3]) (rest := []) hC (c_X6_isWithin l G (fo1_10 0 4) x2 x3 r32 hc32 _) ⟨va_cnB 3 hts gX5_nextNumber_X6_isWithin_n134 rfl rfl rfl (hE.2.2 (RX5, 134, yX6_isWithin, "FeatherShares") (List.mem_of_getElem? (i := 56) rfl)) (hts (.initialized RX6) (by decide +kernel)) (by decide +kernel) ⟨Nat.le_of_ble_eq_true rfl, Nat.le_of_ble_eq_true rfl⟩, hts (.static yX6_isWithin) (by decide +kernel), trivial⟩ ⟨Pc0_blind, fun U hU hW => Pc0_at (Wd := ([] : va_W)) hE (hP.subm [] rfl) (hD.sub [] (by decide) rfl) hU hW⟩ rfl rfl hl.1 rfl (lv_room (Nat.le_of_ble_eq_true rfl)) dX5_nextNumber_32 ⟨Nat.zero_le _, Nat.zero_le _⟩) hS hA hP hD (fun H locs hn32 hP hD hS => ?_)
      refine lv_if_ne (tgt := 47) hx hb dX5_nextNumber_35 (by decide) (fun hc => ?_) (fun hc => ?_)
      · have hf := if_f hf hc
        exact hB47 f_16 fo1_10 x2 _ hf hK _ _ _ hP hD hS (lv_sub hl [0, 1, 2] rfl)
      · have hf := if_t hf hc
        refine lv_aload_n hx hb dX5_nextNumber_38 rfl (lv_at hl 0 rfl) ?_
        refine lv_iconst (v := (nI 3)) hx hb dX5_nextNumber_39 (ic_3) ?_
        refine lv_aload_n hx hb dX5_nextNumber_40 rfl (lv_at hl 1 rfl) ?_
        refine va_getN (C := RX4) (T := TX4) (N := 6) (ci := 4) (v := .int (fo1_10 0 2)) hx hb hts inX4 hown hT hP 1 rfl rfl 3 (Nat.le_of_ble_eq_true rfl) lk65 (fun _ h => h) rfl dX5_nextNumber_41 ?_
        obtain ⟨f_44, hc44, hf⟩ := bd_e hf
        refine cl_v_up (Wd := (wX5 G ad (add 0) f_16 ++ (wX4 G ao1 fo1_10))) (Wc := (wX5 G ad (add 0) f_16)) (W' := (wX5 G ad (add 0) f_44)) (W2 := (wX5 G ad (add 0) f_44 ++ (wX4 G ao1 fo1_10))) (Wr := (wX4 G ao1 fo1_10)) [0] [1, 2] rfl rfl rfl rfl rfl rfl (va_runV (As := [.int (nI 3), .int (fo1_10 0 2)]) (rest := []) hC (c_X5_refuse l G ad add f_16 (nI 3) (fo1_10 0 2) f_44 hc44 _) (cwV 2 hts gX5_nextNumber_X5_refuse rfl rfl rfl (by decide +kernel) ⟨Nat.le_of_ble_eq_true rfl, Nat.le_of_ble_eq_true rfl⟩) ⟨Pc0_blind, va_recv hT hP (q0 := 0) (ci := 5) rfl rfl, fun U hU hW => Pc0_at (Wd := (wX5 G ad (add 0) f_16)) hE (hP.subm [0] rfl) (hD.sub [0] (by decide) rfl) hU hW⟩ rfl rfl hl.1 rfl (lv_room (Nat.le_of_ble_eq_true rfl)) dX5_nextNumber_44 ⟨Nat.zero_le _, Nat.zero_le _⟩) hS hA hP hD (fun H locs hP hD hS => ?_)
        exact hB47 f_44 fo1_10 x2 _ hf hK _ _ _ hP hD hS (lv_sub hl [0, 1, 2] rfl)
  · have hf := if_f hf hc
    refine lv_iload_n hx hb dX5_nextNumber_7 rfl (lv_at hl 2 rfl) ?_
    have hK9 := K0_of hf hK
    exact hRet x2 f fo1 _ _ _ _ hK9 dX5_nextNumber_8 hP hD hS
noncomputable def p_X5_isLineEnded (f : Mem) (fo1 : Mem) : Option (Int32 × Mem × Mem) :=
  if (f 0 1) = 0 then
    (Option.bind (p_X4_nextToken fo1) <| fun fo1_10 =>
     Option.bind (p_X5_refuseOther f fo1_10 (nI 3)) <| fun f_16 =>
     if (f_16 0 1) = 0 then
       (some ((nI 1), f_16, fo1_10))
     else
       (some ((nI 0), f_16, fo1_10)))
  else
    (some ((nI 0), f, fo1))
set_option maxHeartbeats 4000000 in
set_option maxRecDepth 100000 in
theorem c_X5_isLineEnded (l : Launch) (G : Gt) (ad : Nat → Nat) (add : Nat → Nat) (ao1 : Nat → Nat) (f : Mem) (fo1 : Mem) (r : Int32) (fz : Mem) (fo1z : Mem) (hf : p_X5_isLineEnded f fo1 = some (r, fz, fo1z)) (sz : Nat) : Met l yX5_isLineEnded wsX5_isLineEnded ({ frames := 4, cells := 0, slots := 0, locals := 72 }) (Pc0 G sz [.ref (ad 0), .ref (ao1 0)] (wX5 G ad (add 0) f ++ (wX4 G ao1 fo1))) (Qz0 G (va_A (wX5 G ad (add 0) f ++ (wX4 G ao1 fo1)) sz) r (wX5 G ad (add 0) fz ++ (wX4 G ao1 fo1z))) 0 0 (va_A (wX5 G ad (add 0) f ++ (wX4 G ao1 fo1)) sz) := by
  refine metP (Qf := fun A => Qz0 G A r (wX5 G ad (add 0) fz ++ (wX4 G ao1 fo1z))) cX5_isLineEnded 2 (some .boolean) (by decide) rfl (Nat.le_of_ble_eq_true rfl) ?_
  intro p e s m below meth c A ls hC hr hlocks hin hE hA hsz hP hD hS hl
  generalize hargs : ([.ref (ad 0), .ref (ao1 0)] : List Value).toArray = args at hC ⊢
  obtain ⟨hx, hb, hml, hown, hts⟩ := id hC
  have hT : va_K G.1 vwCl (tyL G) s := hE.1
  have hRet : ∀ (r9 : Int32) (f9 : Mem) (fo19 : Mem) (H : Heap) (locs : List Loc) (ls : Array Slot) (pc : Nat) (hK9 : (r9, f9, fo19) = (r, fz, fo1z)) (hn9 : narrow .boolean (.int r9) = .int r9) (hdg : decode cX5_isLineEnded pc = .ok (.ireturn, 1)), va_P G.1 vwCl (wX5 G ad (add 0) f9 ++ (wX4 G ao1 fo19)) H → va_D A (wX5 G ad (add 0) f9 ++ (wX4 G ao1 fo19)) → va_S A s.heap H locs → W p l e ({ frames := 4, cells := 0, slots := 0, locals := 72 }) s m args below meth c H locs 0 0 (MQ below (Qz0 G A r (wX5 G ad (add 0) fz ++ (wX4 G ao1 fo1z))) args s 0 0 A) (F0 m pc ls [.int r9]) := by
    intro r9 f9 fo19 H locs ls pc hK9 hn9 hdg hP hD hS
    cases hK9
    exact W.zret hx hb hr hn9 (fun t ht hW => ⟨⟨r, (), rfl, ⟨rfl, hn9⟩, by rw [ht]; exact hP, hD⟩, hS.F ht⟩) hS.2.2 hdg hlocks
  generalize MQ below (Qz0 G A r (wX5 G ad (add 0) fz ++ (wX4 G ao1 fo1z))) args s 0 0 A = Q at hRet ⊢
  have lk22 := hts (.fieldLink RX5 22 "FeatherShares$TextReader" "faultFound" "I") (by decide +kernel)
  have inX5 : ∀ w ∈ u_ws RX5 TX5 7, w ∈ wsX5_isLineEnded := by decide +kernel
  have hl : lv_has ls 2 [(0, .ref (ad 0)), (1, .ref (ao1 0))] := hl
  have hK0 : (r, fz, fo1z) = (r, fz, fo1z) := rfl
  obtain ⟨res, hres, hK⟩ : ∃ res, p_X5_isLineEnded f fo1 = some res ∧ res = (r, fz, fo1z) := ⟨_, hf, rfl⟩
  clear hf
  have hf := hres
  clear hres
  unfold p_X5_isLineEnded at hf
  refine lv_aload_n hx hb dX5_isLineEnded_0 rfl (lv_at hl 0 rfl) ?_
  refine va_get (C := RX5) (T := TX5) (N := 7) (ci := 5) (v := .int (f 0 1)) hx hb hts inX5 hown hT hP 0 rfl rfl 2 (Nat.le_of_ble_eq_true rfl) lk22 (fun _ h => h) rfl dX5_isLineEnded_1 ?_
  refine lv_if_eq (tgt := 9) hx hb dX5_isLineEnded_4 (by decide) (fun hc => ?_) (fun hc => ?_)
  · have hf := if_t hf hc
    refine lv_aload_n hx hb dX5_isLineEnded_9 rfl (lv_at hl 1 rfl) ?_
    obtain ⟨fo1_10, hc10, hf⟩ := bd_e hf
    refine cl_v_up (Wd := (wX5 G ad (add 0) f ++ (wX4 G ao1 fo1))) (Wc := (wX4 G ao1 fo1)) (W' := (wX4 G ao1 fo1_10)) (W2 := (wX5 G ad (add 0) f ++ (wX4 G ao1 fo1_10))) (Wr := (wX5 G ad (add 0) f)) [1, 2] [0] rfl rfl rfl rfl rfl rfl (va_runVN (As := []) (rest := []) hC (c_X4_nextToken l G ao1 fo1 fo1_10 hc10 _) ⟨va_cnB 0 hts gX5_isLineEnded_X4_nextToken_n59 rfl rfl rfl (hE.2.2 (RX5, 59, yX4_nextToken, "FeatherShares") (List.mem_of_getElem? (i := 52) rfl)) (hts (.initialized RX4) (by decide +kernel)) (by decide +kernel) ⟨Nat.le_of_ble_eq_true rfl, Nat.le_of_ble_eq_true rfl⟩, hts (.instanceMethod yX4_nextToken) (by decide +kernel), hts (.selects RX4 yX4_nextToken yX4_nextToken) (by decide +kernel)⟩ ⟨Pc0_blind, va_recv hT hP (q0 := 1) (ci := 4) rfl rfl, fun U hU hW => Pc0_at (Wd := (wX4 G ao1 fo1)) hE (hP.subm [1, 2] rfl) (hD.sub [1, 2] (by decide) rfl) hU hW⟩ rfl rfl hl.1 rfl (lv_room (Nat.le_of_ble_eq_true rfl)) dX5_isLineEnded_10 ⟨Nat.zero_le _, Nat.zero_le _⟩) hS hA hP hD (fun H locs hP hD hS => ?_)
    refine lv_aload_n hx hb dX5_isLineEnded_13 rfl (lv_at hl 0 rfl) ?_
    refine lv_aload_n hx hb dX5_isLineEnded_14 rfl (lv_at hl 1 rfl) ?_
    refine lv_iconst (v := (nI 3)) hx hb dX5_isLineEnded_15 (ic_3) ?_
    obtain ⟨f_16, hc16, hf⟩ := bd_e hf
    refine cl_v_same (Wd := (wX5 G ad (add 0) f ++ (wX4 G ao1 fo1_10))) (W' := (wX5 G ad (add 0) f_16 ++ (wX4 G ao1 fo1_10))) (va_runV (As := [.ref (ao1 0), .int (nI 3)]) (rest := []) hC (c_X5_refuseOther l G ad add ao1 f fo1_10 (nI 3) f_16 hc16 _) (cwV 2 hts gX5_isLineEnded_X5_refuseOther rfl rfl rfl (by decide +kernel) ⟨Nat.le_of_ble_eq_true rfl, Nat.le_of_ble_eq_true rfl⟩) ⟨Pc0_blind, va_recv hT hP (q0 := 0) (ci := 5) rfl rfl, fun U hU hW => Pc0_at hE hP hD hU hW⟩ rfl rfl hl.1 rfl (lv_room (Nat.le_of_ble_eq_true rfl)) dX5_isLineEnded_16 ⟨Nat.zero_le _, Nat.zero_le _⟩) hS hA hD (fun H locs hP hD hS => ?_)
    refine lv_aload_n hx hb dX5_isLineEnded_19 rfl (lv_at hl 0 rfl) ?_
    refine va_get (C := RX5) (T := TX5) (N := 7) (ci := 5) (v := .int (f_16 0 1)) hx hb hts inX5 hown hT hP 0 rfl rfl 2 (Nat.le_of_ble_eq_true rfl) lk22 (fun _ h => h) rfl dX5_isLineEnded_20 ?_
    refine lv_if_ne (tgt := 30) hx hb dX5_isLineEnded_23 (by decide) (fun hc => ?_) (fun hc => ?_)
    · have hf := if_f hf hc
      refine lv_iconst (v := (nI 0)) hx hb dX5_isLineEnded_30 (ic_0) ?_
      have hK9 := K0_of hf hK
      exact hRet (nI 0) f_16 fo1_10 _ _ _ _ hK9 rfl dX5_isLineEnded_31 hP hD hS
    · have hf := if_t hf hc
      refine lv_iconst (v := (nI 1)) hx hb dX5_isLineEnded_26 (ic_1) ?_
      refine lv_goto (tgt := 31) hx hb dX5_isLineEnded_27 (by decide) ?_
      have hK9 := K0_of hf hK
      exact hRet (nI 1) f_16 fo1_10 _ _ _ _ hK9 rfl dX5_isLineEnded_31 hP hD hS
  · have hf := if_f hf hc
    refine lv_iconst (v := (nI 0)) hx hb dX5_isLineEnded_7 (ic_0) ?_
    have hK9 := K0_of hf hK
    exact hRet (nI 0) f fo1 _ _ _ _ hK9 rfl dX5_isLineEnded_8 hP hD hS
noncomputable def p_X5_readGoose_B20 (f : Mem) (fdraft : Mem) (fo1 : Mem) (x2 : Int32) : Option (Mem × Mem × Mem) :=
  Option.bind (p_X5_nextNumber f fo1 (nI 0) (nI 4)) <| fun (r24, f_24, fo1_24) =>
  Option.bind (p_X5_nextNumber f_24 fo1_24 (nI 1) (nI 9)) <| fun (r33, f_33, fo1_33) =>
  Option.bind (p_X5_isLineEnded f_33 fo1_33) <| fun (r40, f_40, fo1_40) =>
  if r40 = 0 then
    (some (f_40, fdraft, fo1_40))
  else
    (Option.bind (p_X0_addGoose fdraft x2 r24 r33) <| fun fdraft_54 =>
     some (f_40, fdraft_54, fo1_40))
noncomputable def p_X5_readGoose (f : Mem) (fdraft : Mem) (fo1 : Mem) (x2 : Int32) : Option (Mem × Mem × Mem) :=
  if (fdraft 0 0) < (nI 3) then
    (p_X5_readGoose_B20 f fdraft fo1 x2)
  else
    (Option.bind (p_X5_refuse f (nI 5) (fo1 0 2)) <| fun f_17 =>
     p_X5_readGoose_B20 f_17 fdraft fo1 x2)
set_option maxHeartbeats 4000000 in
set_option maxRecDepth 100000 in
theorem c_X5_readGoose (l : Launch) (G : Gt) (ad : Nat → Nat) (add : Nat → Nat) (ao1 : Nat → Nat) (f : Mem) (fdraft : Mem) (fo1 : Mem) (x2 : Int32) (fz : Mem) (fdraftz : Mem) (fo1z : Mem) (hf : p_X5_readGoose f fdraft fo1 x2 = some (fz, fdraftz, fo1z)) (sz : Nat) : Met l yX5_readGoose wsX5_readGoose ({ frames := 5, cells := 0, slots := 0, locals := 95 }) (Pc0 G sz [.ref (ad 0), .ref (ao1 0), .int x2] (wX5 G ad (add 0) f ++ (wX0 G add fdraft ++ (wX4 G ao1 fo1)))) (Qv0 G (va_A (wX5 G ad (add 0) f ++ (wX0 G add fdraft ++ (wX4 G ao1 fo1))) sz) (wX5 G ad (add 0) fz ++ (wX0 G add fdraftz ++ (wX4 G ao1 fo1z)))) 0 0 (va_A (wX5 G ad (add 0) f ++ (wX0 G add fdraft ++ (wX4 G ao1 fo1))) sz) := by
  refine metP (Qf := fun A => Qv0 G A (wX5 G ad (add 0) fz ++ (wX0 G add fdraftz ++ (wX4 G ao1 fo1z)))) cX5_readGoose 5 (none) (by decide) rfl (Nat.le_of_ble_eq_true rfl) ?_
  intro p e s m below meth c A ls hC hr hlocks hin hE hA hsz hP hD hS hl
  generalize hargs : ([.ref (ad 0), .ref (ao1 0), .int x2] : List Value).toArray = args at hC ⊢
  obtain ⟨hx, hb, hml, hown, hts⟩ := id hC
  have hT : va_K G.1 vwCl (tyL G) s := hE.1
  have hRet : ∀ (f9 : Mem) (fdraft9 : Mem) (fo19 : Mem) (H : Heap) (locs : List Loc) (ls : Array Slot) (pc : Nat) (hK9 : (f9, fdraft9, fo19) = (fz, fdraftz, fo1z)) (hdg : decode cX5_readGoose pc = .ok (.return_, 1)), va_P G.1 vwCl (wX5 G ad (add 0) f9 ++ (wX0 G add fdraft9 ++ (wX4 G ao1 fo19))) H → va_D A (wX5 G ad (add 0) f9 ++ (wX0 G add fdraft9 ++ (wX4 G ao1 fo19))) → va_S A s.heap H locs → W p l e ({ frames := 5, cells := 0, slots := 0, locals := 95 }) s m args below meth c H locs 0 0 (MQ below (Qv0 G A (wX5 G ad (add 0) fz ++ (wX0 G add fdraftz ++ (wX4 G ao1 fo1z)))) args s 0 0 A) (F0 m pc ls []) := by
    intro f9 fdraft9 fo19 H locs ls pc hK9 hdg hP hD hS
    cases hK9
    exact W.vret hx hb hr (fun t ht hW => ⟨⟨(), rfl, trivial, by rw [ht]; exact hP, hD⟩, hS.F ht⟩) hS.2.2 hdg hlocks
  generalize MQ below (Qv0 G A (wX5 G ad (add 0) fz ++ (wX0 G add fdraftz ++ (wX4 G ao1 fo1z)))) args s 0 0 A = Q at hRet ⊢
  have lk12 := hts (.fieldLink RX5 12 "FeatherShares$TextReader" "draft" "LFeatherShares$Flock;") (by decide +kernel)
  have inX5 : ∀ w ∈ u_ws RX5 TX5 7, w ∈ wsX5_readGoose := by decide +kernel
  have lk49 := va_Nw.use (A := args) rfl (hE.2.1 (RX5, 49, "FeatherShares$Flock", "geese", "I", "FeatherShares") (List.mem_of_getElem? (i := 28) rfl))
  have inX0 : ∀ w ∈ u_ws RX0 TX0 13, w ∈ wsX5_readGoose := by decide +kernel
  have lk65 := va_Nw.use (A := args) rfl (hE.2.1 (RX5, 65, "FeatherShares$Tape", "tokenStart", "I", "FeatherShares") (List.mem_of_getElem? (i := 31) rfl))
  have inX4 : ∀ w ∈ u_ws RX4 TX4 6, w ∈ wsX5_readGoose := by decide +kernel
  have hl : lv_has ls 5 [(0, .ref (ad 0)), (1, .ref (ao1 0)), (2, .int x2)] := hl
  have hK0 : (fz, fdraftz, fo1z) = (fz, fdraftz, fo1z) := rfl
  have hB20 : ∀ (f : Mem) (fdraft : Mem) (fo1 : Mem) (x2 : Int32) (res : Mem × Mem × Mem) (hf : p_X5_readGoose_B20 f fdraft fo1 x2 = some res) (hK : res = (fz, fdraftz, fo1z)), ∀ (H : Heap) (locs : List Loc) (ls : Array Slot), va_P G.1 vwCl (wX5 G ad (add 0) f ++ (wX0 G add fdraft ++ (wX4 G ao1 fo1))) H → va_D A (wX5 G ad (add 0) f ++ (wX0 G add fdraft ++ (wX4 G ao1 fo1))) → va_S A s.heap H locs → lv_has ls 5 [(0, .ref (ad 0)), (1, .ref (ao1 0)), (2, .int x2)] → W p l e ({ frames := 5, cells := 0, slots := 0, locals := 95 }) s m args below meth c H locs 0 0 Q (F0 m 20 ls []) := by
    intro f fdraft fo1 x2 res hf hK H locs ls hP hD hS hl
    unfold p_X5_readGoose_B20 at hf
    refine lv_aload_n hx hb dX5_readGoose_20 rfl (lv_at hl 0 rfl) ?_
    refine lv_aload_n hx hb dX5_readGoose_21 rfl (lv_at hl 1 rfl) ?_
    refine lv_iconst (v := (nI 0)) hx hb dX5_readGoose_22 (ic_0) ?_
    refine lv_iconst (v := (nI 4)) hx hb dX5_readGoose_23 (ic_4) ?_
    obtain ⟨⟨r24, f_24, fo1_24⟩, hc24, hf⟩ := bd_e hf
    try dsimp only at hf
    refine cl_i_up (Wd := (wX5 G ad (add 0) f ++ (wX0 G add fdraft ++ (wX4 G ao1 fo1)))) (Wc := (wX5 G ad (add 0) f ++ (wX4 G ao1 fo1))) (W' := (wX5 G ad (add 0) f_24 ++ (wX4 G ao1 fo1_24))) (W2 := (wX5 G ad (add 0) f_24 ++ (wX0 G add fdraft ++ (wX4 G ao1 fo1_24)))) (Wr := (wX0 G add fdraft)) [0, 12, 13] [1, 2, 3, 4, 5, 6, 7, 8, 9, 10, 11] rfl rfl rfl rfl rfl rfl (va_runV (As := [.ref (ao1 0), .int (nI 0), .int (nI 4)]) (rest := []) hC (c_X5_nextNumber l G ad add ao1 f fo1 (nI 0) (nI 4) r24 f_24 fo1_24 hc24 _) (cwV 3 hts gX5_readGoose_X5_nextNumber rfl rfl rfl (by decide +kernel) ⟨Nat.le_of_ble_eq_true rfl, Nat.le_of_ble_eq_true rfl⟩) ⟨Pc0_blind, va_recv hT hP (q0 := 0) (ci := 5) rfl rfl, fun U hU hW => Pc0_at (Wd := (wX5 G ad (add 0) f ++ (wX4 G ao1 fo1))) hE (hP.subm [0, 12, 13] rfl) (hD.sub [0, 12, 13] (by decide) rfl) hU hW⟩ rfl rfl hl.1 rfl (lv_room (Nat.le_of_ble_eq_true rfl)) dX5_readGoose_24 ⟨Nat.zero_le _, Nat.zero_le _⟩) hS hA hP hD (fun H locs hP hD hS => ?_)
    refine lv_istore_n (lv' := [(3, .int r24), (0, .ref (ad 0)), (1, .ref (ao1 0)), (2, .int x2)]) hx hb dX5_readGoose_27 rfl hl (by decide) rfl (fun ls hl => ?_)
    refine lv_aload_n hx hb dX5_readGoose_28 rfl (lv_at hl 1 rfl) ?_
    refine lv_aload_n hx hb dX5_readGoose_29 rfl (lv_at hl 2 rfl) ?_
    refine lv_iconst (v := (nI 1)) hx hb dX5_readGoose_30 (ic_1) ?_
    refine lv_bipush (v := (nI 9)) hx hb dX5_readGoose_31 (bi_9) ?_
    obtain ⟨⟨r33, f_33, fo1_33⟩, hc33, hf⟩ := bd_e hf
    try dsimp only at hf
    refine cl_i_up (Wd := (wX5 G ad (add 0) f_24 ++ (wX0 G add fdraft ++ (wX4 G ao1 fo1_24)))) (Wc := (wX5 G ad (add 0) f_24 ++ (wX4 G ao1 fo1_24))) (W' := (wX5 G ad (add 0) f_33 ++ (wX4 G ao1 fo1_33))) (W2 := (wX5 G ad (add 0) f_33 ++ (wX0 G add fdraft ++ (wX4 G ao1 fo1_33)))) (Wr := (wX0 G add fdraft)) [0, 12, 13] [1, 2, 3, 4, 5, 6, 7, 8, 9, 10, 11] rfl rfl rfl rfl rfl rfl (va_runV (As := [.ref (ao1 0), .int (nI 1), .int (nI 9)]) (rest := []) hC (c_X5_nextNumber l G ad add ao1 f_24 fo1_24 (nI 1) (nI 9) r33 f_33 fo1_33 hc33 _) (cwV 3 hts gX5_readGoose_X5_nextNumber rfl rfl rfl (by decide +kernel) ⟨Nat.le_of_ble_eq_true rfl, Nat.le_of_ble_eq_true rfl⟩) ⟨Pc0_blind, va_recv hT hP (q0 := 0) (ci := 5) rfl rfl, fun U hU hW => Pc0_at (Wd := (wX5 G ad (add 0) f_24 ++ (wX4 G ao1 fo1_24))) hE (hP.subm [0, 12, 13] rfl) (hD.sub [0, 12, 13] (by decide) rfl) hU hW⟩ rfl rfl hl.1 rfl (lv_room (Nat.le_of_ble_eq_true rfl)) dX5_readGoose_33 ⟨Nat.zero_le _, Nat.zero_le _⟩) hS hA hP hD (fun H locs hP hD hS => ?_)
    refine lv_istore (lv' := [(4, .int r33), (3, .int r24), (0, .ref (ad 0)), (1, .ref (ao1 0)), (2, .int x2)]) hx hb dX5_readGoose_36 hl (by decide) rfl (fun ls hl => ?_)
    refine lv_aload_n hx hb dX5_readGoose_38 rfl (lv_at hl 2 rfl) ?_
    refine lv_aload_n hx hb dX5_readGoose_39 rfl (lv_at hl 3 rfl) ?_
    obtain ⟨⟨r40, f_40, fo1_40⟩, hc40, hf⟩ := bd_e hf
    try dsimp only at hf
    refine cl_z_up (Wd := (wX5 G ad (add 0) f_33 ++ (wX0 G add fdraft ++ (wX4 G ao1 fo1_33)))) (Wc := (wX5 G ad (add 0) f_33 ++ (wX4 G ao1 fo1_33))) (W' := (wX5 G ad (add 0) f_40 ++ (wX4 G ao1 fo1_40))) (W2 := (wX5 G ad (add 0) f_40 ++ (wX0 G add fdraft ++ (wX4 G ao1 fo1_40)))) (Wr := (wX0 G add fdraft)) [0, 12, 13] [1, 2, 3, 4, 5, 6, 7, 8, 9, 10, 11] rfl rfl rfl rfl rfl rfl (va_runV (As := [.ref (ao1 0)]) (rest := []) hC (c_X5_isLineEnded l G ad add ao1 f_33 fo1_33 r40 f_40 fo1_40 hc40 _) (cwV 1 hts gX5_readGoose_X5_isLineEnded rfl rfl rfl (by decide +kernel) ⟨Nat.le_of_ble_eq_true rfl, Nat.le_of_ble_eq_true rfl⟩) ⟨Pc0_blind, va_recv hT hP (q0 := 0) (ci := 5) rfl rfl, fun U hU hW => Pc0_at (Wd := (wX5 G ad (add 0) f_33 ++ (wX4 G ao1 fo1_33))) hE (hP.subm [0, 12, 13] rfl) (hD.sub [0, 12, 13] (by decide) rfl) hU hW⟩ rfl rfl hl.1 rfl (lv_room (Nat.le_of_ble_eq_true rfl)) dX5_readGoose_40 ⟨Nat.zero_le _, Nat.zero_le _⟩) hS hA hP hD (fun H locs hn40 hP hD hS => ?_)
    refine lv_if_eq (tgt := 57) hx hb dX5_readGoose_43 (by decide) (fun hc => ?_) (fun hc => ?_)
    · have hf := if_t hf hc
      have hK9 := K0_of hf hK
      exact hRet f_40 fdraft fo1_40 _ _ _ _ hK9 dX5_readGoose_57 hP hD hS
    · have hf := if_f hf hc
      refine lv_aload_n hx hb dX5_readGoose_46 rfl (lv_at hl 2 rfl) ?_
      refine va_get (C := RX5) (T := TX5) (N := 7) (ci := 5) (v := .ref (add 0)) hx hb hts inX5 hown hT hP 0 rfl rfl 0 (Nat.le_of_ble_eq_true rfl) lk12 (fun _ h => h) rfl dX5_readGoose_47 ?_
      refine lv_iload_n hx hb dX5_readGoose_50 rfl (lv_at hl 4 rfl) ?_
      refine lv_iload_n hx hb dX5_readGoose_51 rfl (lv_at hl 1 rfl) ?_
      refine lv_iload hx hb dX5_readGoose_52 (lv_at hl 0 rfl) ?_
      obtain ⟨fdraft_54, hc54, hf⟩ := bd_e hf
      refine cl_v_up (Wd := (wX5 G ad (add 0) f_40 ++ (wX0 G add fdraft ++ (wX4 G ao1 fo1_40)))) (Wc := (wX0 G add fdraft)) (W' := (wX0 G add fdraft_54)) (W2 := (wX5 G ad (add 0) f_40 ++ (wX0 G add fdraft_54 ++ (wX4 G ao1 fo1_40)))) (Wr := (wX5 G ad (add 0) f_40 ++ (wX4 G ao1 fo1_40))) [1, 2, 3, 4, 5, 6, 7, 8, 9, 10, 11] [0, 12, 13] rfl rfl rfl rfl rfl rfl (va_runVN (As := [.int x2, .int r24, .int r33]) (rest := []) hC (c_X0_addGoose l G add fdraft x2 r24 r33 fdraft_54 hc54 _) ⟨va_cnB 3 hts gX5_readGoose_X0_addGoose_n111 rfl rfl rfl (hE.2.2 (RX5, 111, yX0_addGoose, "FeatherShares") (List.mem_of_getElem? (i := 54) rfl)) (hts (.initialized RX0) (by decide +kernel)) (by decide +kernel) ⟨Nat.le_of_ble_eq_true rfl, Nat.le_of_ble_eq_true rfl⟩, hts (.instanceMethod yX0_addGoose) (by decide +kernel), hts (.selects RX0 yX0_addGoose yX0_addGoose) (by decide +kernel)⟩ ⟨Pc0_blind, va_recv hT hP (q0 := 1) (ci := 0) rfl rfl, fun U hU hW => Pc0_at (Wd := (wX0 G add fdraft)) hE (hP.subm [1, 2, 3, 4, 5, 6, 7, 8, 9, 10, 11] rfl) (hD.sub [1, 2, 3, 4, 5, 6, 7, 8, 9, 10, 11] (by decide) rfl) hU hW⟩ rfl rfl hl.1 rfl (lv_room (Nat.le_of_ble_eq_true rfl)) dX5_readGoose_54 ⟨Nat.zero_le _, Nat.zero_le _⟩) hS hA hP hD (fun H locs hP hD hS => ?_)
      have hK9 := K0_of hf hK
      exact hRet f_40 fdraft_54 fo1_40 _ _ _ _ hK9 dX5_readGoose_57 hP hD hS
  obtain ⟨res, hres, hK⟩ : ∃ res, p_X5_readGoose f fdraft fo1 x2 = some res ∧ res = (fz, fdraftz, fo1z) := ⟨_, hf, rfl⟩
  clear hf
  have hf := hres
  clear hres
  unfold p_X5_readGoose at hf
  refine lv_aload_n hx hb dX5_readGoose_0 rfl (lv_at hl 0 rfl) ?_
  refine va_get (C := RX5) (T := TX5) (N := 7) (ci := 5) (v := .ref (add 0)) hx hb hts inX5 hown hT hP 0 rfl rfl 0 (Nat.le_of_ble_eq_true rfl) lk12 (fun _ h => h) rfl dX5_readGoose_1 ?_
  refine va_getN (C := RX0) (T := TX0) (N := 13) (ci := 0) (v := .int (fdraft 0 0)) hx hb hts inX0 hown hT hP 1 rfl rfl 0 (Nat.le_of_ble_eq_true rfl) lk49 (fun _ h => h) rfl dX5_readGoose_4 ?_
  refine lv_iconst (v := (nI 3)) hx hb dX5_readGoose_7 (ic_3) ?_
  refine lv_icmp_lt (tgt := 20) hx hb dX5_readGoose_8 (by decide) (fun hc => ?_) (fun hc => ?_)
  · have hf := if_t hf hc
    exact hB20 f fdraft fo1 x2 _ hf hK _ _ _ hP hD hS (lv_sub hl [0, 1, 2] rfl)
  · have hf := if_f hf hc
    refine lv_aload_n hx hb dX5_readGoose_11 rfl (lv_at hl 0 rfl) ?_
    refine lv_iconst (v := (nI 5)) hx hb dX5_readGoose_12 (ic_5) ?_
    refine lv_aload_n hx hb dX5_readGoose_13 rfl (lv_at hl 1 rfl) ?_
    refine va_getN (C := RX4) (T := TX4) (N := 6) (ci := 4) (v := .int (fo1 0 2)) hx hb hts inX4 hown hT hP 12 rfl rfl 3 (Nat.le_of_ble_eq_true rfl) lk65 (fun _ h => h) rfl dX5_readGoose_14 ?_
    obtain ⟨f_17, hc17, hf⟩ := bd_e hf
    refine cl_v_up (Wd := (wX5 G ad (add 0) f ++ (wX0 G add fdraft ++ (wX4 G ao1 fo1)))) (Wc := (wX5 G ad (add 0) f)) (W' := (wX5 G ad (add 0) f_17)) (W2 := (wX5 G ad (add 0) f_17 ++ (wX0 G add fdraft ++ (wX4 G ao1 fo1)))) (Wr := (wX0 G add fdraft ++ (wX4 G ao1 fo1))) [0] [1, 2, 3, 4, 5, 6, 7, 8, 9, 10, 11, 12, 13] rfl rfl rfl rfl rfl rfl (va_runV (As := [.int (nI 5), .int (fo1 0 2)]) (rest := []) hC (c_X5_refuse l G ad add f (nI 5) (fo1 0 2) f_17 hc17 _) (cwV 2 hts gX5_readGoose_X5_refuse rfl rfl rfl (by decide +kernel) ⟨Nat.le_of_ble_eq_true rfl, Nat.le_of_ble_eq_true rfl⟩) ⟨Pc0_blind, va_recv hT hP (q0 := 0) (ci := 5) rfl rfl, fun U hU hW => Pc0_at (Wd := (wX5 G ad (add 0) f)) hE (hP.subm [0] rfl) (hD.sub [0] (by decide) rfl) hU hW⟩ rfl rfl hl.1 rfl (lv_room (Nat.le_of_ble_eq_true rfl)) dX5_readGoose_17 ⟨Nat.zero_le _, Nat.zero_le _⟩) hS hA hP hD (fun H locs hP hD hS => ?_)
    exact hB20 f_17 fdraft fo1 x2 _ hf hK _ _ _ hP hD hS (lv_sub hl [0, 1, 2] rfl)
noncomputable def p_X5_readShare_B45 (f : Mem) (fdraft : Mem) (fo1 : Mem) (x2 : Int32) (x4 : Int32) : Option (Mem × Mem × Mem) :=
  Option.bind (p_X5_nextNumber f fo1 (nI 0) (nI 99)) <| fun (r50, f_50, fo1_50) =>
  Option.bind (p_X5_isLineEnded f_50 fo1_50) <| fun (r57, f_57, fo1_57) =>
  if r57 = 0 then
    (some (f_57, fdraft, fo1_57))
  else
    (gd (inb x4 15) <|
     bnd (upd (fdraft 4) x4.toNatClampNeg r50) <| fun g99 =>
     some ((mset 0 5 ((f_57 0 5) ||| ((nI 1) <<< (x2 &&& 31))) (mset 0 3 ((f_57 0 3) ||| ((nI 1) <<< (x4 &&& 31))) f_57)), (mrow 4 (g99) fdraft), fo1_57))
noncomputable def p_X5_readShare (f : Mem) (fdraft : Mem) (fo1 : Mem) : Option (Mem × Mem × Mem) :=
  Option.bind (p_X5_nextNumber f fo1 (nI 0) (nI 2)) <| fun (r4, f_4, fo1_4) =>
  Option.bind (p_X5_nextNumber f_4 fo1_4 (nI 0) (nI 4)) <| fun (r12, f_12, fo1_12) =>
  if (((f_12 0 3) >>> (((r4 * (nI 5)) + r12) &&& 31)) &&& (nI 1)) = (nI 1) then
    (Option.bind (p_X5_refuse f_12 (nI 4) (fo1_12 0 2)) <| fun f_42 =>
     p_X5_readShare_B45 f_42 fdraft fo1_12 r4 ((r4 * (nI 5)) + r12))
  else
    (p_X5_readShare_B45 f_12 fdraft fo1_12 r4 ((r4 * (nI 5)) + r12))
set_option maxHeartbeats 4000000 in
set_option maxRecDepth 100000 in
theorem c_X5_readShare (l : Launch) (G : Gt) (ad : Nat → Nat) (add : Nat → Nat) (ao1 : Nat → Nat) (f : Mem) (fdraft : Mem) (fo1 : Mem) (fz : Mem) (fdraftz : Mem) (fo1z : Mem) (hf : p_X5_readShare f fdraft fo1 = some (fz, fdraftz, fo1z)) (sz : Nat) : Met l yX5_readShare wsX5_readShare ({ frames := 5, cells := 0, slots := 0, locals := 95 }) (Pc0 G sz [.ref (ad 0), .ref (ao1 0)] (wX5 G ad (add 0) f ++ (wX0 G add fdraft ++ (wX4 G ao1 fo1)))) (Qv0 G (va_A (wX5 G ad (add 0) f ++ (wX0 G add fdraft ++ (wX4 G ao1 fo1))) sz) (wX5 G ad (add 0) fz ++ (wX0 G add fdraftz ++ (wX4 G ao1 fo1z)))) 0 0 (va_A (wX5 G ad (add 0) f ++ (wX0 G add fdraft ++ (wX4 G ao1 fo1))) sz) := by
  refine metP (Qf := fun A => Qv0 G A (wX5 G ad (add 0) fz ++ (wX0 G add fdraftz ++ (wX4 G ao1 fo1z)))) cX5_readShare 6 (none) (by decide) rfl (Nat.le_of_ble_eq_true rfl) ?_
  intro p e s m below meth c A ls hC hr hlocks hin hE hA hsz hP hD hS hl
  generalize hargs : ([.ref (ad 0), .ref (ao1 0)] : List Value).toArray = args at hC ⊢
  obtain ⟨hx, hb, hml, hown, hts⟩ := id hC
  have hT : va_K G.1 vwCl (tyL G) s := hE.1
  have hRet : ∀ (f9 : Mem) (fdraft9 : Mem) (fo19 : Mem) (H : Heap) (locs : List Loc) (ls : Array Slot) (pc : Nat) (hK9 : (f9, fdraft9, fo19) = (fz, fdraftz, fo1z)) (hdg : decode cX5_readShare pc = .ok (.return_, 1)), va_P G.1 vwCl (wX5 G ad (add 0) f9 ++ (wX0 G add fdraft9 ++ (wX4 G ao1 fo19))) H → va_D A (wX5 G ad (add 0) f9 ++ (wX0 G add fdraft9 ++ (wX4 G ao1 fo19))) → va_S A s.heap H locs → W p l e ({ frames := 5, cells := 0, slots := 0, locals := 95 }) s m args below meth c H locs 0 0 (MQ below (Qv0 G A (wX5 G ad (add 0) fz ++ (wX0 G add fdraftz ++ (wX4 G ao1 fo1z)))) args s 0 0 A) (F0 m pc ls []) := by
    intro f9 fdraft9 fo19 H locs ls pc hK9 hdg hP hD hS
    cases hK9
    exact W.vret hx hb hr (fun t ht hW => ⟨⟨(), rfl, trivial, by rw [ht]; exact hP, hD⟩, hS.F ht⟩) hS.2.2 hdg hlocks
  generalize MQ below (Qv0 G A (wX5 G ad (add 0) fz ++ (wX0 G add fdraftz ++ (wX4 G ao1 fo1z)))) args s 0 0 A = Q at hRet ⊢
  have lk28 := hts (.fieldLink RX5 28 "FeatherShares$TextReader" "toldShares" "I") (by decide +kernel)
  have inX5 : ∀ w ∈ u_ws RX5 TX5 7, w ∈ wsX5_readShare := by decide +kernel
  have lk34 := hts (.fieldLink RX5 34 "FeatherShares$TextReader" "namedGeese" "I") (by decide +kernel)
  have lk12 := hts (.fieldLink RX5 12 "FeatherShares$TextReader" "draft" "LFeatherShares$Flock;") (by decide +kernel)
  have lk115 := va_Nw.use (A := args) rfl (hE.2.1 (RX5, 115, "FeatherShares$Flock", "feathers", "[I", "FeatherShares") (List.mem_of_getElem? (i := 32) rfl))
  have inX0 : ∀ w ∈ u_ws RX0 TX0 13, w ∈ wsX5_readShare := by decide +kernel
  have lk65 := va_Nw.use (A := args) rfl (hE.2.1 (RX5, 65, "FeatherShares$Tape", "tokenStart", "I", "FeatherShares") (List.mem_of_getElem? (i := 31) rfl))
  have inX4 : ∀ w ∈ u_ws RX4 TX4 6, w ∈ wsX5_readShare := by decide +kernel
  have hl : lv_has ls 6 [(0, .ref (ad 0)), (1, .ref (ao1 0))] := hl
  have hK0 : (fz, fdraftz, fo1z) = (fz, fdraftz, fo1z) := rfl
  have hB45 : ∀ (f : Mem) (fdraft : Mem) (fo1 : Mem) (x2 : Int32) (x4 : Int32) (res : Mem × Mem × Mem) (hf : p_X5_readShare_B45 f fdraft fo1 x2 x4 = some res) (hK : res = (fz, fdraftz, fo1z)), ∀ (H : Heap) (locs : List Loc) (ls : Array Slot), va_P G.1 vwCl (wX5 G ad (add 0) f ++ (wX0 G add fdraft ++ (wX4 G ao1 fo1))) H → va_D A (wX5 G ad (add 0) f ++ (wX0 G add fdraft ++ (wX4 G ao1 fo1))) → va_S A s.heap H locs → lv_has ls 6 [(0, .ref (ad 0)), (1, .ref (ao1 0)), (2, .int x2), (4, .int x4)] → W p l e ({ frames := 5, cells := 0, slots := 0, locals := 95 }) s m args below meth c H locs 0 0 Q (F0 m 45 ls []) := by
    intro f fdraft fo1 x2 x4 res hf hK H locs ls hP hD hS hl
    unfold p_X5_readShare_B45 at hf
    refine lv_aload_n hx hb dX5_readShare_45 rfl (lv_at hl 0 rfl) ?_
    refine lv_aload_n hx hb dX5_readShare_46 rfl (lv_at hl 1 rfl) ?_
    refine lv_iconst (v := (nI 0)) hx hb dX5_readShare_47 (ic_0) ?_
    refine lv_bipush (v := (nI 99)) hx hb dX5_readShare_48 (bi_99) ?_
    obtain ⟨⟨r50, f_50, fo1_50⟩, hc50, hf⟩ := bd_e hf
    try dsimp only at hf
    refine cl_i_up (Wd := (wX5 G ad (add 0) f ++ (wX0 G add fdraft ++ (wX4 G ao1 fo1)))) (Wc := (wX5 G ad (add 0) f ++ (wX4 G ao1 fo1))) (W' := (wX5 G ad (add 0) f_50 ++ (wX4 G ao1 fo1_50))) (W2 := (wX5 G ad (add 0) f_50 ++ (wX0 G add fdraft ++ (wX4 G ao1 fo1_50)))) (Wr := (wX0 G add fdraft)) [0, 12, 13] [1, 2, 3, 4, 5, 6, 7, 8, 9, 10, 11] rfl rfl rfl rfl rfl rfl (va_runV (As := [.ref (ao1 0), .int (nI 0), .int (nI 99)]) (rest := []) hC (c_X5_nextNumber l G ad add ao1 f fo1 (nI 0) (nI 99) r50 f_50 fo1_50 hc50 _) (cwV 3 hts gX5_readShare_X5_nextNumber rfl rfl rfl (by decide +kernel) ⟨Nat.le_of_ble_eq_true rfl, Nat.le_of_ble_eq_true rfl⟩) ⟨Pc0_blind, va_recv hT hP (q0 := 0) (ci := 5) rfl rfl, fun U hU hW => Pc0_at (Wd := (wX5 G ad (add 0) f ++ (wX4 G ao1 fo1))) hE (hP.subm [0, 12, 13] rfl) (hD.sub [0, 12, 13] (by decide) rfl) hU hW⟩ rfl rfl hl.1 rfl (lv_room (Nat.le_of_ble_eq_true rfl)) dX5_readShare_50 ⟨Nat.zero_le _, Nat.zero_le _⟩) hS hA hP hD (fun H locs hP hD hS => ?_)
    refine lv_istore (lv' := [(5, .int r50), (0, .ref (ad 0)), (1, .ref (ao1 0)), (2, .int x2), (4, .int x4)]) hx hb dX5_readShare_53 hl (by decide) rfl (fun ls hl => ?_)
    refine lv_aload_n hx hb dX5_readShare_55 rfl (lv_at hl 1 rfl) ?_
    refine lv_aload_n hx hb dX5_readShare_56 rfl (lv_at hl 2 rfl) ?_
    obtain ⟨⟨r57, f_57, fo1_57⟩, hc57, hf⟩ := bd_e hf
    try dsimp only at hf
    refine cl_z_up (Wd := (wX5 G ad (add 0) f_50 ++ (wX0 G add fdraft ++ (wX4 G ao1 fo1_50)))) (Wc := (wX5 G ad (add 0) f_50 ++ (wX4 G ao1 fo1_50))) (W' := (wX5 G ad (add 0) f_57 ++ (wX4 G ao1 fo1_57))) (W2 := (wX5 G ad (add 0) f_57 ++ (wX0 G add fdraft ++ (wX4 G ao1 fo1_57)))) (Wr := (wX0 G add fdraft)) [0, 12, 13] [1, 2, 3, 4, 5, 6, 7, 8, 9, 10, 11] rfl rfl rfl rfl rfl rfl (va_runV (As := [.ref (ao1 0)]) (rest := []) hC (c_X5_isLineEnded l G ad add ao1 f_50 fo1_50 r57 f_57 fo1_57 hc57 _) (cwV 1 hts gX5_readShare_X5_isLineEnded rfl rfl rfl (by decide +kernel) ⟨Nat.le_of_ble_eq_true rfl, Nat.le_of_ble_eq_true rfl⟩) ⟨Pc0_blind, va_recv hT hP (q0 := 0) (ci := 5) rfl rfl, fun U hU hW => Pc0_at (Wd := (wX5 G ad (add 0) f_50 ++ (wX4 G ao1 fo1_50))) hE (hP.subm [0, 12, 13] rfl) (hD.sub [0, 12, 13] (by decide) rfl) hU hW⟩ rfl rfl hl.1 rfl (lv_room (Nat.le_of_ble_eq_true rfl)) dX5_readShare_57 ⟨Nat.zero_le _, Nat.zero_le _⟩) hS hA hP hD (fun H locs hn57 hP hD hS => ?_)
    refine lv_if_eq (tgt := 100) hx hb dX5_readShare_60 (by decide) (fun hc => ?_) (fun hc => ?_)
    · have hf := if_t hf hc
      have hK9 := K0_of hf hK
      exact hRet f_57 fdraft fo1_57 _ _ _ _ hK9 dX5_readShare_100 hP hD hS
    · have hf := if_f hf hc
      refine lv_aload_n hx hb dX5_readShare_63 rfl (lv_at hl 1 rfl) ?_
      refine lv_dup hx hb dX5_readShare_64 rfl ?_
      refine va_get (C := RX5) (T := TX5) (N := 7) (ci := 5) (v := .int (f_57 0 3)) hx hb hts inX5 hown hT hP 0 rfl rfl 4 (Nat.le_of_ble_eq_true rfl) lk28 (fun _ h => h) rfl dX5_readShare_65 ?_
      refine lv_iconst (v := (nI 1)) hx hb dX5_readShare_68 (ic_1) ?_
      refine lv_iload hx hb dX5_readShare_69 (lv_at hl 4 rfl) ?_
      refine lv_ishl hx hb dX5_readShare_71 ?_
      refine lv_ior hx hb dX5_readShare_72 ?_
      refine va_put (C := RX5) (T := TX5) (N := 7) (ci := 5) (ty := .int) (v := .int ((f_57 0 3) ||| ((nI 1) <<< (x4 &&& 31)))) hx hb hts inX5 tyX5 tyX5_ok nmX5 hown hT hP hD hS 0 rfl rfl 4 (Nat.le_of_ble_eq_true rfl) lk28 (fun _ h => h) rfl (by decide +kernel) rfl rfl (Nat.le_of_ble_eq_true rfl) dX5_readShare_73 (fun H locs hP hD hS => ?_)
      have hP : va_P G.1 vwCl (wX5 G ad (add 0) (mset 0 3 ((f_57 0 3) ||| ((nI 1) <<< (x4 &&& 31))) f_57) ++ (wX0 G add fdraft ++ (wX4 G ao1 fo1_57))) H := hP
      have hD : va_D A (wX5 G ad (add 0) (mset 0 3 ((f_57 0 3) ||| ((nI 1) <<< (x4 &&& 31))) f_57) ++ (wX0 G add fdraft ++ (wX4 G ao1 fo1_57))) := hD
      refine lv_aload_n hx hb dX5_readShare_76 rfl (lv_at hl 1 rfl) ?_
      refine lv_dup hx hb dX5_readShare_77 rfl ?_
      refine va_get (C := RX5) (T := TX5) (N := 7) (ci := 5) (v := .int (f_57 0 5)) hx hb hts inX5 hown hT hP 0 rfl rfl 6 (Nat.le_of_ble_eq_true rfl) lk34 (fun _ h => h) rfl dX5_readShare_78 ?_
      refine lv_iconst (v := (nI 1)) hx hb dX5_readShare_81 (ic_1) ?_
      refine lv_iload_n hx hb dX5_readShare_82 rfl (lv_at hl 3 rfl) ?_
      refine lv_ishl hx hb dX5_readShare_83 ?_
      refine lv_ior hx hb dX5_readShare_84 ?_
      refine va_put (C := RX5) (T := TX5) (N := 7) (ci := 5) (ty := .int) (v := .int ((f_57 0 5) ||| ((nI 1) <<< (x2 &&& 31)))) hx hb hts inX5 tyX5 tyX5_ok nmX5 hown hT hP hD hS 0 rfl rfl 6 (Nat.le_of_ble_eq_true rfl) lk34 (fun _ h => h) rfl (by decide +kernel) rfl rfl (Nat.le_of_ble_eq_true rfl) dX5_readShare_85 (fun H locs hP hD hS => ?_)
      have hP : va_P G.1 vwCl (wX5 G ad (add 0) (mset 0 5 ((f_57 0 5) ||| ((nI 1) <<< (x2 &&& 31))) (mset 0 3 ((f_57 0 3) ||| ((nI 1) <<< (x4 &&& 31))) f_57)) ++ (wX0 G add fdraft ++ (wX4 G ao1 fo1_57))) H := hP
      have hD : va_D A (wX5 G ad (add 0) (mset 0 5 ((f_57 0 5) ||| ((nI 1) <<< (x2 &&& 31))) (mset 0 3 ((f_57 0 3) ||| ((nI 1) <<< (x4 &&& 31))) f_57)) ++ (wX0 G add fdraft ++ (wX4 G ao1 fo1_57))) := hD
      refine lv_aload_n hx hb dX5_readShare_88 rfl (lv_at hl 1 rfl) ?_
      refine va_get (C := RX5) (T := TX5) (N := 7) (ci := 5) (v := .ref (add 0)) hx hb hts inX5 hown hT hP 0 rfl rfl 0 (Nat.le_of_ble_eq_true rfl) lk12 (fun _ h => h) rfl dX5_readShare_89 ?_
      refine va_getN (C := RX0) (T := TX0) (N := 13) (ci := 0) (v := .ref (add 4)) hx hb hts inX0 hown hT hP 1 rfl rfl 6 (Nat.le_of_ble_eq_true rfl) lk115 (fun _ h => h) rfl dX5_readShare_92 ?_
      refine lv_iload hx hb dX5_readShare_95 (lv_at hl 4 rfl) ?_
      refine lv_iload hx hb dX5_readShare_97 (lv_at hl 0 rfl) ?_
      obtain ⟨hg, hf⟩ := gd_e hf
      obtain ⟨g99, eg99, hf⟩ := bnd_e hf
      refine va_iast (f := fdraft 4) hx hb hT hP hD hS 5 0 rfl rfl (inb_e hg) dX5_readShare_99 (fun H locs hP hD hS => ?_)
      rw [← eg99] at hP hD
      have hP : va_P G.1 vwCl (wX5 G ad (add 0) (mset 0 5 ((f_57 0 5) ||| ((nI 1) <<< (x2 &&& 31))) (mset 0 3 ((f_57 0 3) ||| ((nI 1) <<< (x4 &&& 31))) f_57)) ++ (wX0 G add (mrow 4 (g99) fdraft) ++ (wX4 G ao1 fo1_57))) H := hP
      have hD : va_D A (wX5 G ad (add 0) (mset 0 5 ((f_57 0 5) ||| ((nI 1) <<< (x2 &&& 31))) (mset 0 3 ((f_57 0 3) ||| ((nI 1) <<< (x4 &&& 31))) f_57)) ++ (wX0 G add (mrow 4 (g99) fdraft) ++ (wX4 G ao1 fo1_57))) := hD
      have hK9 := K0_of hf hK
      exact hRet (mset 0 5 ((f_57 0 5) ||| ((nI 1) <<< (x2 &&& 31))) (mset 0 3 ((f_57 0 3) ||| ((nI 1) <<< (x4 &&& 31))) f_57)) (mrow 4 (g99) fdraft) fo1_57 _ _ _ _ hK9 dX5_readShare_100 hP hD hS
  obtain ⟨res, hres, hK⟩ : ∃ res, p_X5_readShare f fdraft fo1 = some res ∧ res = (fz, fdraftz, fo1z) := ⟨_, hf, rfl⟩
  clear hf
  have hf := hres
  clear hres
  unfold p_X5_readShare at hf
  refine lv_aload_n hx hb dX5_readShare_0 rfl (lv_at hl 0 rfl) ?_
  refine lv_aload_n hx hb dX5_readShare_1 rfl (lv_at hl 1 rfl) ?_
  refine lv_iconst (v := (nI 0)) hx hb dX5_readShare_2 (ic_0) ?_
  refine lv_iconst (v := (nI 2)) hx hb dX5_readShare_3 (ic_2) ?_
  obtain ⟨⟨r4, f_4, fo1_4⟩, hc4, hf⟩ := bd_e hf
  try dsimp only at hf
  refine cl_i_up (Wd := (wX5 G ad (add 0) f ++ (wX0 G add fdraft ++ (wX4 G ao1 fo1)))) (Wc := (wX5 G ad (add 0) f ++ (wX4 G ao1 fo1))) (W' := (wX5 G ad (add 0) f_4 ++ (wX4 G ao1 fo1_4))) (W2 := (wX5 G ad (add 0) f_4 ++ (wX0 G add fdraft ++ (wX4 G ao1 fo1_4)))) (Wr := (wX0 G add fdraft)) [0, 12, 13] [1, 2, 3, 4, 5, 6, 7, 8, 9, 10, 11] rfl rfl rfl rfl rfl rfl (va_runV (As := [.ref (ao1 0), .int (nI 0), .int (nI 2)]) (rest := []) hC (c_X5_nextNumber l G ad add ao1 f fo1 (nI 0) (nI 2) r4 f_4 fo1_4 hc4 _) (cwV 3 hts gX5_readShare_X5_nextNumber rfl rfl rfl (by decide +kernel) ⟨Nat.le_of_ble_eq_true rfl, Nat.le_of_ble_eq_true rfl⟩) ⟨Pc0_blind, va_recv hT hP (q0 := 0) (ci := 5) rfl rfl, fun U hU hW => Pc0_at (Wd := (wX5 G ad (add 0) f ++ (wX4 G ao1 fo1))) hE (hP.subm [0, 12, 13] rfl) (hD.sub [0, 12, 13] (by decide) rfl) hU hW⟩ rfl rfl hl.1 rfl (lv_room (Nat.le_of_ble_eq_true rfl)) dX5_readShare_4 ⟨Nat.zero_le _, Nat.zero_le _⟩) hS hA hP hD (fun H locs hP hD hS => ?_)
  refine lv_istore_n (lv' := [(2, .int r4), (0, .ref (ad 0)), (1, .ref (ao1 0))]) hx hb dX5_readShare_7 rfl hl (by decide) rfl (fun ls hl => ?_)
  refine lv_aload_n hx hb dX5_readShare_8 rfl (lv_at hl 1 rfl) ?_
  refine lv_aload_n hx hb dX5_readShare_9 rfl (lv_at hl 2 rfl) ?_
  refine lv_iconst (v := (nI 0)) hx hb dX5_readShare_10 (ic_0) ?_
  refine lv_iconst (v := (nI 4)) hx hb dX5_readShare_11 (ic_4) ?_
  obtain ⟨⟨r12, f_12, fo1_12⟩, hc12, hf⟩ := bd_e hf
  try dsimp only at hf
  refine cl_i_up (Wd := (wX5 G ad (add 0) f_4 ++ (wX0 G add fdraft ++ (wX4 G ao1 fo1_4)))) (Wc := (wX5 G ad (add 0) f_4 ++ (wX4 G ao1 fo1_4))) (W' := (wX5 G ad (add 0) f_12 ++ (wX4 G ao1 fo1_12))) (W2 := (wX5 G ad (add 0) f_12 ++ (wX0 G add fdraft ++ (wX4 G ao1 fo1_12)))) (Wr := (wX0 G add fdraft)) [0, 12, 13] [1, 2, 3, 4, 5, 6, 7, 8, 9, 10, 11] rfl rfl rfl rfl rfl rfl (va_runV (As := [.ref (ao1 0), .int (nI 0), .int (nI 4)]) (rest := []) hC (c_X5_nextNumber l G ad add ao1 f_4 fo1_4 (nI 0) (nI 4) r12 f_12 fo1_12 hc12 _) (cwV 3 hts gX5_readShare_X5_nextNumber rfl rfl rfl (by decide +kernel) ⟨Nat.le_of_ble_eq_true rfl, Nat.le_of_ble_eq_true rfl⟩) ⟨Pc0_blind, va_recv hT hP (q0 := 0) (ci := 5) rfl rfl, fun U hU hW => Pc0_at (Wd := (wX5 G ad (add 0) f_4 ++ (wX4 G ao1 fo1_4))) hE (hP.subm [0, 12, 13] rfl) (hD.sub [0, 12, 13] (by decide) rfl) hU hW⟩ rfl rfl hl.1 rfl (lv_room (Nat.le_of_ble_eq_true rfl)) dX5_readShare_12 ⟨Nat.zero_le _, Nat.zero_le _⟩) hS hA hP hD (fun H locs hP hD hS => ?_)
  refine lv_istore_n (lv' := [(3, .int r12), (2, .int r4), (0, .ref (ad 0)), (1, .ref (ao1 0))]) hx hb dX5_readShare_15 rfl hl (by decide) rfl (fun ls hl => ?_)
  refine lv_iload_n hx hb dX5_readShare_16 rfl (lv_at hl 1 rfl) ?_
  refine lv_iconst (v := (nI 5)) hx hb dX5_readShare_17 (ic_5) ?_
  refine lv_imul hx hb dX5_readShare_18 ?_
  refine lv_iload_n hx hb dX5_readShare_19 rfl (lv_at hl 0 rfl) ?_
  refine lv_iadd hx hb dX5_readShare_20 ?_
  refine lv_istore (lv' := [(4, .int ((r4 * (nI 5)) + r12)), (3, .int r12), (2, .int r4), (0, .ref (ad 0)), (1, .ref (ao1 0))]) hx hb dX5_readShare_21 hl (by decide) rfl (fun ls hl => ?_)
  refine lv_aload_n hx hb dX5_readShare_23 rfl (lv_at hl 3 rfl) ?_
  refine va_get (C := RX5) (T := TX5) (N := 7) (ci := 5) (v := .int (f_12 0 3)) hx hb hts inX5 hown hT hP 0 rfl rfl 4 (Nat.le_of_ble_eq_true rfl) lk28 (fun _ h => h) rfl dX5_readShare_24 ?_
  refine lv_iload hx hb dX5_readShare_27 (lv_at hl 0 rfl) ?_
  refine lv_ishr hx hb dX5_readShare_29 ?_
  refine lv_iconst (v := (nI 1)) hx hb dX5_readShare_30 (ic_1) ?_
  refine lv_iand hx hb dX5_readShare_31 ?_
  refine lv_iconst (v := (nI 1)) hx hb dX5_readShare_32 (ic_1) ?_
  refine lv_icmp_ne (tgt := 45) hx hb dX5_readShare_33 (by decide) (fun hc => ?_) (fun hc => ?_)
  · have hf := if_f hf hc
    exact hB45 f_12 fdraft fo1_12 r4 ((r4 * (nI 5)) + r12) _ hf hK _ _ _ hP hD hS (lv_sub hl [3, 4, 2, 0] rfl)
  · have hf := if_t hf hc
    refine lv_aload_n hx hb dX5_readShare_36 rfl (lv_at hl 3 rfl) ?_
    refine lv_iconst (v := (nI 4)) hx hb dX5_readShare_37 (ic_4) ?_
    refine lv_aload_n hx hb dX5_readShare_38 rfl (lv_at hl 4 rfl) ?_
    refine va_getN (C := RX4) (T := TX4) (N := 6) (ci := 4) (v := .int (fo1_12 0 2)) hx hb hts inX4 hown hT hP 12 rfl rfl 3 (Nat.le_of_ble_eq_true rfl) lk65 (fun _ h => h) rfl dX5_readShare_39 ?_
    obtain ⟨f_42, hc42, hf⟩ := bd_e hf
    refine cl_v_up (Wd := (wX5 G ad (add 0) f_12 ++ (wX0 G add fdraft ++ (wX4 G ao1 fo1_12)))) (Wc := (wX5 G ad (add 0) f_12)) (W' := (wX5 G ad (add 0) f_42)) (W2 := (wX5 G ad (add 0) f_42 ++ (wX0 G add fdraft ++ (wX4 G ao1 fo1_12)))) (Wr := (wX0 G add fdraft ++ (wX4 G ao1 fo1_12))) [0] [1, 2, 3, 4, 5, 6, 7, 8, 9, 10, 11, 12, 13] rfl rfl rfl rfl rfl rfl (va_runV (As := [.int (nI 4), .int (fo1_12 0 2)]) (rest := []) hC (c_X5_refuse l G ad add f_12 (nI 4) (fo1_12 0 2) f_42 hc42 _) (cwV 2 hts gX5_readShare_X5_refuse rfl rfl rfl (by decide +kernel) ⟨Nat.le_of_ble_eq_true rfl, Nat.le_of_ble_eq_true rfl⟩) ⟨Pc0_blind, va_recv hT hP (q0 := 0) (ci := 5) rfl rfl, fun U hU hW => Pc0_at (Wd := (wX5 G ad (add 0) f_12)) hE (hP.subm [0] rfl) (hD.sub [0] (by decide) rfl) hU hW⟩ rfl rfl hl.1 rfl (lv_room (Nat.le_of_ble_eq_true rfl)) dX5_readShare_42 ⟨Nat.zero_le _, Nat.zero_le _⟩) hS hA hP hD (fun H locs hP hD hS => ?_)
    exact hB45 f_42 fdraft fo1_12 r4 ((r4 * (nI 5)) + r12) _ hf hK _ _ _ hP hD hS (lv_sub hl [3, 4, 2, 0] rfl)
noncomputable def p_X5_readMoney_B29 (f : Mem) (fdraft : Mem) (fo1 : Mem) (x2 : Int32) : Option (Mem × Mem × Mem) :=
  Option.bind (p_X5_nextNumber f fo1 (nI 0) (nI 99)) <| fun (r34, f_34, fo1_34) =>
  Option.bind (p_X5_isLineEnded f_34 fo1_34) <| fun (r40, f_40, fo1_40) =>
  if r40 = 0 then
    (some (f_40, fdraft, fo1_40))
  else
    (gd (inb x2 5) <|
     bnd (upd (fdraft 5) x2.toNatClampNeg r34) <| fun g67 =>
     some ((mset 0 4 ((f_40 0 4) ||| ((nI 1) <<< (x2 &&& 31))) f_40), (mrow 5 (g67) fdraft), fo1_40))
noncomputable def p_X5_readMoney (f : Mem) (fdraft : Mem) (fo1 : Mem) : Option (Mem × Mem × Mem) :=
  Option.bind (p_X5_nextNumber f fo1 (nI 0) (nI 4)) <| fun (r4, f_4, fo1_4) =>
  if (((f_4 0 4) >>> (r4 &&& 31)) &&& (nI 1)) = (nI 1) then
    (Option.bind (p_X5_refuse f_4 (nI 4) (fo1_4 0 2)) <| fun f_26 =>
     p_X5_readMoney_B29 f_26 fdraft fo1_4 r4)
  else
    (p_X5_readMoney_B29 f_4 fdraft fo1_4 r4)
set_option maxHeartbeats 4000000 in
set_option maxRecDepth 100000 in
theorem c_X5_readMoney (l : Launch) (G : Gt) (ad : Nat → Nat) (add : Nat → Nat) (ao1 : Nat → Nat) (f : Mem) (fdraft : Mem) (fo1 : Mem) (fz : Mem) (fdraftz : Mem) (fo1z : Mem) (hf : p_X5_readMoney f fdraft fo1 = some (fz, fdraftz, fo1z)) (sz : Nat) : Met l yX5_readMoney wsX5_readMoney ({ frames := 5, cells := 0, slots := 0, locals := 95 }) (Pc0 G sz [.ref (ad 0), .ref (ao1 0)] (wX5 G ad (add 0) f ++ (wX0 G add fdraft ++ (wX4 G ao1 fo1)))) (Qv0 G (va_A (wX5 G ad (add 0) f ++ (wX0 G add fdraft ++ (wX4 G ao1 fo1))) sz) (wX5 G ad (add 0) fz ++ (wX0 G add fdraftz ++ (wX4 G ao1 fo1z)))) 0 0 (va_A (wX5 G ad (add 0) f ++ (wX0 G add fdraft ++ (wX4 G ao1 fo1))) sz) := by
  refine metP (Qf := fun A => Qv0 G A (wX5 G ad (add 0) fz ++ (wX0 G add fdraftz ++ (wX4 G ao1 fo1z)))) cX5_readMoney 4 (none) (by decide) rfl (Nat.le_of_ble_eq_true rfl) ?_
  intro p e s m below meth c A ls hC hr hlocks hin hE hA hsz hP hD hS hl
  generalize hargs : ([.ref (ad 0), .ref (ao1 0)] : List Value).toArray = args at hC ⊢
  obtain ⟨hx, hb, hml, hown, hts⟩ := id hC
  have hT : va_K G.1 vwCl (tyL G) s := hE.1
  have hRet : ∀ (f9 : Mem) (fdraft9 : Mem) (fo19 : Mem) (H : Heap) (locs : List Loc) (ls : Array Slot) (pc : Nat) (hK9 : (f9, fdraft9, fo19) = (fz, fdraftz, fo1z)) (hdg : decode cX5_readMoney pc = .ok (.return_, 1)), va_P G.1 vwCl (wX5 G ad (add 0) f9 ++ (wX0 G add fdraft9 ++ (wX4 G ao1 fo19))) H → va_D A (wX5 G ad (add 0) f9 ++ (wX0 G add fdraft9 ++ (wX4 G ao1 fo19))) → va_S A s.heap H locs → W p l e ({ frames := 5, cells := 0, slots := 0, locals := 95 }) s m args below meth c H locs 0 0 (MQ below (Qv0 G A (wX5 G ad (add 0) fz ++ (wX0 G add fdraftz ++ (wX4 G ao1 fo1z)))) args s 0 0 A) (F0 m pc ls []) := by
    intro f9 fdraft9 fo19 H locs ls pc hK9 hdg hP hD hS
    cases hK9
    exact W.vret hx hb hr (fun t ht hW => ⟨⟨(), rfl, trivial, by rw [ht]; exact hP, hD⟩, hS.F ht⟩) hS.2.2 hdg hlocks
  generalize MQ below (Qv0 G A (wX5 G ad (add 0) fz ++ (wX0 G add fdraftz ++ (wX4 G ao1 fo1z)))) args s 0 0 A = Q at hRet ⊢
  have lk31 := hts (.fieldLink RX5 31 "FeatherShares$TextReader" "toldMoney" "I") (by decide +kernel)
  have inX5 : ∀ w ∈ u_ws RX5 TX5 7, w ∈ wsX5_readMoney := by decide +kernel
  have lk12 := hts (.fieldLink RX5 12 "FeatherShares$TextReader" "draft" "LFeatherShares$Flock;") (by decide +kernel)
  have lk119 := va_Nw.use (A := args) rfl (hE.2.1 (RX5, 119, "FeatherShares$Flock", "money", "[I", "FeatherShares") (List.mem_of_getElem? (i := 33) rfl))
  have inX0 : ∀ w ∈ u_ws RX0 TX0 13, w ∈ wsX5_readMoney := by decide +kernel
  have lk65 := va_Nw.use (A := args) rfl (hE.2.1 (RX5, 65, "FeatherShares$Tape", "tokenStart", "I", "FeatherShares") (List.mem_of_getElem? (i := 31) rfl))
  have inX4 : ∀ w ∈ u_ws RX4 TX4 6, w ∈ wsX5_readMoney := by decide +kernel
  have hl : lv_has ls 4 [(0, .ref (ad 0)), (1, .ref (ao1 0))] := hl
  have hK0 : (fz, fdraftz, fo1z) = (fz, fdraftz, fo1z) := rfl
  have hB29 : ∀ (f : Mem) (fdraft : Mem) (fo1 : Mem) (x2 : Int32) (res : Mem × Mem × Mem) (hf : p_X5_readMoney_B29 f fdraft fo1 x2 = some res) (hK : res = (fz, fdraftz, fo1z)), ∀ (H : Heap) (locs : List Loc) (ls : Array Slot), va_P G.1 vwCl (wX5 G ad (add 0) f ++ (wX0 G add fdraft ++ (wX4 G ao1 fo1))) H → va_D A (wX5 G ad (add 0) f ++ (wX0 G add fdraft ++ (wX4 G ao1 fo1))) → va_S A s.heap H locs → lv_has ls 4 [(0, .ref (ad 0)), (1, .ref (ao1 0)), (2, .int x2)] → W p l e ({ frames := 5, cells := 0, slots := 0, locals := 95 }) s m args below meth c H locs 0 0 Q (F0 m 29 ls []) := by
    intro f fdraft fo1 x2 res hf hK H locs ls hP hD hS hl
    unfold p_X5_readMoney_B29 at hf
    refine lv_aload_n hx hb dX5_readMoney_29 rfl (lv_at hl 0 rfl) ?_
    refine lv_aload_n hx hb dX5_readMoney_30 rfl (lv_at hl 1 rfl) ?_
    refine lv_iconst (v := (nI 0)) hx hb dX5_readMoney_31 (ic_0) ?_
    refine lv_bipush (v := (nI 99)) hx hb dX5_readMoney_32 (bi_99) ?_
    obtain ⟨⟨r34, f_34, fo1_34⟩, hc34, hf⟩ := bd_e hf
    try dsimp only at hf
    refine cl_i_up (Wd := (wX5 G ad (add 0) f ++ (wX0 G add fdraft ++ (wX4 G ao1 fo1)))) (Wc := (wX5 G ad (add 0) f ++ (wX4 G ao1 fo1))) (W' := (wX5 G ad (add 0) f_34 ++ (wX4 G ao1 fo1_34))) (W2 := (wX5 G ad (add 0) f_34 ++ (wX0 G add fdraft ++ (wX4 G ao1 fo1_34)))) (Wr := (wX0 G add fdraft)) [0, 12, 13] [1, 2, 3, 4, 5, 6, 7, 8, 9, 10, 11] rfl rfl rfl rfl rfl rfl (va_runV (As := [.ref (ao1 0), .int (nI 0), .int (nI 99)]) (rest := []) hC (c_X5_nextNumber l G ad add ao1 f fo1 (nI 0) (nI 99) r34 f_34 fo1_34 hc34 _) (cwV 3 hts gX5_readMoney_X5_nextNumber rfl rfl rfl (by decide +kernel) ⟨Nat.le_of_ble_eq_true rfl, Nat.le_of_ble_eq_true rfl⟩) ⟨Pc0_blind, va_recv hT hP (q0 := 0) (ci := 5) rfl rfl, fun U hU hW => Pc0_at (Wd := (wX5 G ad (add 0) f ++ (wX4 G ao1 fo1))) hE (hP.subm [0, 12, 13] rfl) (hD.sub [0, 12, 13] (by decide) rfl) hU hW⟩ rfl rfl hl.1 rfl (lv_room (Nat.le_of_ble_eq_true rfl)) dX5_readMoney_34 ⟨Nat.zero_le _, Nat.zero_le _⟩) hS hA hP hD (fun H locs hP hD hS => ?_)
    refine lv_istore_n (lv' := [(3, .int r34), (0, .ref (ad 0)), (1, .ref (ao1 0)), (2, .int x2)]) hx hb dX5_readMoney_37 rfl hl (by decide) rfl (fun ls hl => ?_)
    refine lv_aload_n hx hb dX5_readMoney_38 rfl (lv_at hl 1 rfl) ?_
    refine lv_aload_n hx hb dX5_readMoney_39 rfl (lv_at hl 2 rfl) ?_
    obtain ⟨⟨r40, f_40, fo1_40⟩, hc40, hf⟩ := bd_e hf
    try dsimp only at hf
    refine cl_z_up (Wd := (wX5 G ad (add 0) f_34 ++ (wX0 G add fdraft ++ (wX4 G ao1 fo1_34)))) (Wc := (wX5 G ad (add 0) f_34 ++ (wX4 G ao1 fo1_34))) (W' := (wX5 G ad (add 0) f_40 ++ (wX4 G ao1 fo1_40))) (W2 := (wX5 G ad (add 0) f_40 ++ (wX0 G add fdraft ++ (wX4 G ao1 fo1_40)))) (Wr := (wX0 G add fdraft)) [0, 12, 13] [1, 2, 3, 4, 5, 6, 7, 8, 9, 10, 11] rfl rfl rfl rfl rfl rfl (va_runV (As := [.ref (ao1 0)]) (rest := []) hC (c_X5_isLineEnded l G ad add ao1 f_34 fo1_34 r40 f_40 fo1_40 hc40 _) (cwV 1 hts gX5_readMoney_X5_isLineEnded rfl rfl rfl (by decide +kernel) ⟨Nat.le_of_ble_eq_true rfl, Nat.le_of_ble_eq_true rfl⟩) ⟨Pc0_blind, va_recv hT hP (q0 := 0) (ci := 5) rfl rfl, fun U hU hW => Pc0_at (Wd := (wX5 G ad (add 0) f_34 ++ (wX4 G ao1 fo1_34))) hE (hP.subm [0, 12, 13] rfl) (hD.sub [0, 12, 13] (by decide) rfl) hU hW⟩ rfl rfl hl.1 rfl (lv_room (Nat.le_of_ble_eq_true rfl)) dX5_readMoney_40 ⟨Nat.zero_le _, Nat.zero_le _⟩) hS hA hP hD (fun H locs hn40 hP hD hS => ?_)
    refine lv_if_eq (tgt := 68) hx hb dX5_readMoney_43 (by decide) (fun hc => ?_) (fun hc => ?_)
    · have hf := if_t hf hc
      have hK9 := K0_of hf hK
      exact hRet f_40 fdraft fo1_40 _ _ _ _ hK9 dX5_readMoney_68 hP hD hS
    · have hf := if_f hf hc
      refine lv_aload_n hx hb dX5_readMoney_46 rfl (lv_at hl 1 rfl) ?_
      refine lv_dup hx hb dX5_readMoney_47 rfl ?_
      refine va_get (C := RX5) (T := TX5) (N := 7) (ci := 5) (v := .int (f_40 0 4)) hx hb hts inX5 hown hT hP 0 rfl rfl 5 (Nat.le_of_ble_eq_true rfl) lk31 (fun _ h => h) rfl dX5_readMoney_48 ?_
      refine lv_iconst (v := (nI 1)) hx hb dX5_readMoney_51 (ic_1) ?_
      refine lv_iload_n hx hb dX5_readMoney_52 rfl (lv_at hl 3 rfl) ?_
      refine lv_ishl hx hb dX5_readMoney_53 ?_
      refine lv_ior hx hb dX5_readMoney_54 ?_
      refine va_put (C := RX5) (T := TX5) (N := 7) (ci := 5) (ty := .int) (v := .int ((f_40 0 4) ||| ((nI 1) <<< (x2 &&& 31)))) hx hb hts inX5 tyX5 tyX5_ok nmX5 hown hT hP hD hS 0 rfl rfl 5 (Nat.le_of_ble_eq_true rfl) lk31 (fun _ h => h) rfl (by decide +kernel) rfl rfl (Nat.le_of_ble_eq_true rfl) dX5_readMoney_55 (fun H locs hP hD hS => ?_)
      have hP : va_P G.1 vwCl (wX5 G ad (add 0) (mset 0 4 ((f_40 0 4) ||| ((nI 1) <<< (x2 &&& 31))) f_40) ++ (wX0 G add fdraft ++ (wX4 G ao1 fo1_40))) H := hP
      have hD : va_D A (wX5 G ad (add 0) (mset 0 4 ((f_40 0 4) ||| ((nI 1) <<< (x2 &&& 31))) f_40) ++ (wX0 G add fdraft ++ (wX4 G ao1 fo1_40))) := hD
      refine lv_aload_n hx hb dX5_readMoney_58 rfl (lv_at hl 1 rfl) ?_
      refine va_get (C := RX5) (T := TX5) (N := 7) (ci := 5) (v := .ref (add 0)) hx hb hts inX5 hown hT hP 0 rfl rfl 0 (Nat.le_of_ble_eq_true rfl) lk12 (fun _ h => h) rfl dX5_readMoney_59 ?_
      refine va_getN (C := RX0) (T := TX0) (N := 13) (ci := 0) (v := .ref (add 5)) hx hb hts inX0 hown hT hP 1 rfl rfl 7 (Nat.le_of_ble_eq_true rfl) lk119 (fun _ h => h) rfl dX5_readMoney_62 ?_
      refine lv_iload_n hx hb dX5_readMoney_65 rfl (lv_at hl 3 rfl) ?_
      refine lv_iload_n hx hb dX5_readMoney_66 rfl (lv_at hl 0 rfl) ?_
      obtain ⟨hg, hf⟩ := gd_e hf
      obtain ⟨g67, eg67, hf⟩ := bnd_e hf
      refine va_iast (f := fdraft 5) hx hb hT hP hD hS 6 0 rfl rfl (inb_e hg) dX5_readMoney_67 (fun H locs hP hD hS => ?_)
      rw [← eg67] at hP hD
      have hP : va_P G.1 vwCl (wX5 G ad (add 0) (mset 0 4 ((f_40 0 4) ||| ((nI 1) <<< (x2 &&& 31))) f_40) ++ (wX0 G add (mrow 5 (g67) fdraft) ++ (wX4 G ao1 fo1_40))) H := hP
      have hD : va_D A (wX5 G ad (add 0) (mset 0 4 ((f_40 0 4) ||| ((nI 1) <<< (x2 &&& 31))) f_40) ++ (wX0 G add (mrow 5 (g67) fdraft) ++ (wX4 G ao1 fo1_40))) := hD
      have hK9 := K0_of hf hK
      exact hRet (mset 0 4 ((f_40 0 4) ||| ((nI 1) <<< (x2 &&& 31))) f_40) (mrow 5 (g67) fdraft) fo1_40 _ _ _ _ hK9 dX5_readMoney_68 hP hD hS
  obtain ⟨res, hres, hK⟩ : ∃ res, p_X5_readMoney f fdraft fo1 = some res ∧ res = (fz, fdraftz, fo1z) := ⟨_, hf, rfl⟩
  clear hf
  have hf := hres
  clear hres
  unfold p_X5_readMoney at hf
  refine lv_aload_n hx hb dX5_readMoney_0 rfl (lv_at hl 0 rfl) ?_
  refine lv_aload_n hx hb dX5_readMoney_1 rfl (lv_at hl 1 rfl) ?_
  refine lv_iconst (v := (nI 0)) hx hb dX5_readMoney_2 (ic_0) ?_
  refine lv_iconst (v := (nI 4)) hx hb dX5_readMoney_3 (ic_4) ?_
  obtain ⟨⟨r4, f_4, fo1_4⟩, hc4, hf⟩ := bd_e hf
  try dsimp only at hf
  refine cl_i_up (Wd := (wX5 G ad (add 0) f ++ (wX0 G add fdraft ++ (wX4 G ao1 fo1)))) (Wc := (wX5 G ad (add 0) f ++ (wX4 G ao1 fo1))) (W' := (wX5 G ad (add 0) f_4 ++ (wX4 G ao1 fo1_4))) (W2 := (wX5 G ad (add 0) f_4 ++ (wX0 G add fdraft ++ (wX4 G ao1 fo1_4)))) (Wr := (wX0 G add fdraft)) [0, 12, 13] [1, 2, 3, 4, 5, 6, 7, 8, 9, 10, 11] rfl rfl rfl rfl rfl rfl (va_runV (As := [.ref (ao1 0), .int (nI 0), .int (nI 4)]) (rest := []) hC (c_X5_nextNumber l G ad add ao1 f fo1 (nI 0) (nI 4) r4 f_4 fo1_4 hc4 _) (cwV 3 hts gX5_readMoney_X5_nextNumber rfl rfl rfl (by decide +kernel) ⟨Nat.le_of_ble_eq_true rfl, Nat.le_of_ble_eq_true rfl⟩) ⟨Pc0_blind, va_recv hT hP (q0 := 0) (ci := 5) rfl rfl, fun U hU hW => Pc0_at (Wd := (wX5 G ad (add 0) f ++ (wX4 G ao1 fo1))) hE (hP.subm [0, 12, 13] rfl) (hD.sub [0, 12, 13] (by decide) rfl) hU hW⟩ rfl rfl hl.1 rfl (lv_room (Nat.le_of_ble_eq_true rfl)) dX5_readMoney_4 ⟨Nat.zero_le _, Nat.zero_le _⟩) hS hA hP hD (fun H locs hP hD hS => ?_)
  refine lv_istore_n (lv' := [(2, .int r4), (0, .ref (ad 0)), (1, .ref (ao1 0))]) hx hb dX5_readMoney_7 rfl hl (by decide) rfl (fun ls hl => ?_)
  refine lv_aload_n hx hb dX5_readMoney_8 rfl (lv_at hl 1 rfl) ?_
  refine va_get (C := RX5) (T := TX5) (N := 7) (ci := 5) (v := .int (f_4 0 4)) hx hb hts inX5 hown hT hP 0 rfl rfl 5 (Nat.le_of_ble_eq_true rfl) lk31 (fun _ h => h) rfl dX5_readMoney_9 ?_
  refine lv_iload_n hx hb dX5_readMoney_12 rfl (lv_at hl 0 rfl) ?_
  refine lv_ishr hx hb dX5_readMoney_13 ?_
  refine lv_iconst (v := (nI 1)) hx hb dX5_readMoney_14 (ic_1) ?_
  refine lv_iand hx hb dX5_readMoney_15 ?_
  refine lv_iconst (v := (nI 1)) hx hb dX5_readMoney_16 (ic_1) ?_
  refine lv_icmp_ne (tgt := 29) hx hb dX5_readMoney_17 (by decide) (fun hc => ?_) (fun hc => ?_)
  · have hf := if_f hf hc
    exact hB29 f_4 fdraft fo1_4 r4 _ hf hK _ _ _ hP hD hS (lv_sub hl [1, 2, 0] rfl)
  · have hf := if_t hf hc
    refine lv_aload_n hx hb dX5_readMoney_20 rfl (lv_at hl 1 rfl) ?_
    refine lv_iconst (v := (nI 4)) hx hb dX5_readMoney_21 (ic_4) ?_
    refine lv_aload_n hx hb dX5_readMoney_22 rfl (lv_at hl 2 rfl) ?_
    refine va_getN (C := RX4) (T := TX4) (N := 6) (ci := 4) (v := .int (fo1_4 0 2)) hx hb hts inX4 hown hT hP 12 rfl rfl 3 (Nat.le_of_ble_eq_true rfl) lk65 (fun _ h => h) rfl dX5_readMoney_23 ?_
    obtain ⟨f_26, hc26, hf⟩ := bd_e hf
    refine cl_v_up (Wd := (wX5 G ad (add 0) f_4 ++ (wX0 G add fdraft ++ (wX4 G ao1 fo1_4)))) (Wc := (wX5 G ad (add 0) f_4)) (W' := (wX5 G ad (add 0) f_26)) (W2 := (wX5 G ad (add 0) f_26 ++ (wX0 G add fdraft ++ (wX4 G ao1 fo1_4)))) (Wr := (wX0 G add fdraft ++ (wX4 G ao1 fo1_4))) [0] [1, 2, 3, 4, 5, 6, 7, 8, 9, 10, 11, 12, 13] rfl rfl rfl rfl rfl rfl (va_runV (As := [.int (nI 4), .int (fo1_4 0 2)]) (rest := []) hC (c_X5_refuse l G ad add f_4 (nI 4) (fo1_4 0 2) f_26 hc26 _) (cwV 2 hts gX5_readMoney_X5_refuse rfl rfl rfl (by decide +kernel) ⟨Nat.le_of_ble_eq_true rfl, Nat.le_of_ble_eq_true rfl⟩) ⟨Pc0_blind, va_recv hT hP (q0 := 0) (ci := 5) rfl rfl, fun U hU hW => Pc0_at (Wd := (wX5 G ad (add 0) f_4)) hE (hP.subm [0] rfl) (hD.sub [0] (by decide) rfl) hU hW⟩ rfl rfl hl.1 rfl (lv_room (Nat.le_of_ble_eq_true rfl)) dX5_readMoney_26 ⟨Nat.zero_le _, Nat.zero_le _⟩) hS hA hP hD (fun H locs hP hD hS => ?_)
    exact hB29 f_26 fdraft fo1_4 r4 _ hf hK _ _ _ hP hD hS (lv_sub hl [1, 2, 0] rfl)
noncomputable def p_X5_readTrade_B51 (f : Mem) (fdraft : Mem) (fo1 : Mem) (x2 : Int32) (x3 : Int32) : Option (Mem × Mem × Mem) :=
  Option.bind (p_X5_nextNumber f fo1 (nI 0) (nI 2)) <| fun (r55, f_55, fo1_55) =>
  Option.bind (p_X5_nextNumber f_55 fo1_55 (nI 1) (nI 9)) <| fun (r65, f_65, fo1_65) =>
  Option.bind (p_X5_isLineEnded f_65 fo1_65) <| fun (r72, f_72, fo1_72) =>
  if r72 = 0 then
    (some (f_72, fdraft, fo1_72))
  else
    (Option.bind (p_X0_addToPlan fdraft x2 x3 r55 r65) <| fun (r101, fdraft_101) =>
     some ((mset 0 5 ((f_72 0 5) ||| ((nI 1) <<< (r55 &&& 31))) f_72), fdraft_101, fo1_72))
noncomputable def p_X5_readTrade_B21 (f : Mem) (fdraft : Mem) (fo1 : Mem) : Option (Mem × Mem × Mem) :=
  Option.bind (p_X5_nextNumber f fo1 (nI 0) (nI 4)) <| fun (r25, f_25, fo1_25) =>
  Option.bind (p_X5_nextNumber f_25 fo1_25 (nI 0) (nI 4)) <| fun (r33, f_33, fo1_33) =>
  if r33 = r25 then
    (Option.bind (p_X5_refuse f_33 (nI 3) (fo1_33 0 2)) <| fun f_48 =>
     p_X5_readTrade_B51 f_48 fdraft fo1_33 r25 r33)
  else
    (p_X5_readTrade_B51 f_33 fdraft fo1_33 r25 r33)
noncomputable def p_X5_readTrade (f : Mem) (fdraft : Mem) (fo1 : Mem) : Option (Mem × Mem × Mem) :=
  if (fdraft 0 2) < (nI 6) then
    (p_X5_readTrade_B21 f fdraft fo1)
  else
    (Option.bind (p_X5_refuse f (nI 5) (fo1 0 2)) <| fun f_18 =>
     p_X5_readTrade_B21 f_18 fdraft fo1)
set_option maxHeartbeats 4000000 in
set_option maxRecDepth 100000 in
theorem c_X5_readTrade (l : Launch) (G : Gt) (ad : Nat → Nat) (add : Nat → Nat) (ao1 : Nat → Nat) (f : Mem) (fdraft : Mem) (fo1 : Mem) (fz : Mem) (fdraftz : Mem) (fo1z : Mem) (hf : p_X5_readTrade f fdraft fo1 = some (fz, fdraftz, fo1z)) (sz : Nat) : Met l yX5_readTrade wsX5_readTrade ({ frames := 5, cells := 0, slots := 0, locals := 95 }) (Pc0 G sz [.ref (ad 0), .ref (ao1 0)] (wX5 G ad (add 0) f ++ (wX0 G add fdraft ++ (wX4 G ao1 fo1)))) (Qv0 G (va_A (wX5 G ad (add 0) f ++ (wX0 G add fdraft ++ (wX4 G ao1 fo1))) sz) (wX5 G ad (add 0) fz ++ (wX0 G add fdraftz ++ (wX4 G ao1 fo1z)))) 0 0 (va_A (wX5 G ad (add 0) f ++ (wX0 G add fdraft ++ (wX4 G ao1 fo1))) sz) := by
  refine metP (Qf := fun A => Qv0 G A (wX5 G ad (add 0) fz ++ (wX0 G add fdraftz ++ (wX4 G ao1 fo1z)))) cX5_readTrade 6 (none) (by decide) rfl (Nat.le_of_ble_eq_true rfl) ?_
  intro p e s m below meth c A ls hC hr hlocks hin hE hA hsz hP hD hS hl
  generalize hargs : ([.ref (ad 0), .ref (ao1 0)] : List Value).toArray = args at hC ⊢
  obtain ⟨hx, hb, hml, hown, hts⟩ := id hC
  have hT : va_K G.1 vwCl (tyL G) s := hE.1
  have hRet : ∀ (f9 : Mem) (fdraft9 : Mem) (fo19 : Mem) (H : Heap) (locs : List Loc) (ls : Array Slot) (pc : Nat) (hK9 : (f9, fdraft9, fo19) = (fz, fdraftz, fo1z)) (hdg : decode cX5_readTrade pc = .ok (.return_, 1)), va_P G.1 vwCl (wX5 G ad (add 0) f9 ++ (wX0 G add fdraft9 ++ (wX4 G ao1 fo19))) H → va_D A (wX5 G ad (add 0) f9 ++ (wX0 G add fdraft9 ++ (wX4 G ao1 fo19))) → va_S A s.heap H locs → W p l e ({ frames := 5, cells := 0, slots := 0, locals := 95 }) s m args below meth c H locs 0 0 (MQ below (Qv0 G A (wX5 G ad (add 0) fz ++ (wX0 G add fdraftz ++ (wX4 G ao1 fo1z)))) args s 0 0 A) (F0 m pc ls []) := by
    intro f9 fdraft9 fo19 H locs ls pc hK9 hdg hP hD hS
    cases hK9
    exact W.vret hx hb hr (fun t ht hW => ⟨⟨(), rfl, trivial, by rw [ht]; exact hP, hD⟩, hS.F ht⟩) hS.2.2 hdg hlocks
  generalize MQ below (Qv0 G A (wX5 G ad (add 0) fz ++ (wX0 G add fdraftz ++ (wX4 G ao1 fo1z)))) args s 0 0 A = Q at hRet ⊢
  have lk34 := hts (.fieldLink RX5 34 "FeatherShares$TextReader" "namedGeese" "I") (by decide +kernel)
  have inX5 : ∀ w ∈ u_ws RX5 TX5 7, w ∈ wsX5_readTrade := by decide +kernel
  have lk12 := hts (.fieldLink RX5 12 "FeatherShares$TextReader" "draft" "LFeatherShares$Flock;") (by decide +kernel)
  have lk65 := va_Nw.use (A := args) rfl (hE.2.1 (RX5, 65, "FeatherShares$Tape", "tokenStart", "I", "FeatherShares") (List.mem_of_getElem? (i := 31) rfl))
  have inX4 : ∀ w ∈ u_ws RX4 TX4 6, w ∈ wsX5_readTrade := by decide +kernel
  have lk121 := va_Nw.use (A := args) rfl (hE.2.1 (RX5, 121, "FeatherShares$Flock", "trades", "I", "FeatherShares") (List.mem_of_getElem? (i := 34) rfl))
  have inX0 : ∀ w ∈ u_ws RX0 TX0 13, w ∈ wsX5_readTrade := by decide +kernel
  have hl : lv_has ls 6 [(0, .ref (ad 0)), (1, .ref (ao1 0))] := hl
  have hK0 : (fz, fdraftz, fo1z) = (fz, fdraftz, fo1z) := rfl
  have hB51 : ∀ (f : Mem) (fdraft : Mem) (fo1 : Mem) (x2 : Int32) (x3 : Int32) (res : Mem × Mem × Mem) (hf : p_X5_readTrade_B51 f fdraft fo1 x2 x3 = some res) (hK : res = (fz, fdraftz, fo1z)), ∀ (H : Heap) (locs : List Loc) (ls : Array Slot), va_P G.1 vwCl (wX5 G ad (add 0) f ++ (wX0 G add fdraft ++ (wX4 G ao1 fo1))) H → va_D A (wX5 G ad (add 0) f ++ (wX0 G add fdraft ++ (wX4 G ao1 fo1))) → va_S A s.heap H locs → lv_has ls 6 [(0, .ref (ad 0)), (1, .ref (ao1 0)), (2, .int x2), (3, .int x3)] → W p l e ({ frames := 5, cells := 0, slots := 0, locals := 95 }) s m args below meth c H locs 0 0 Q (F0 m 51 ls []) := by
    intro f fdraft fo1 x2 x3 res hf hK H locs ls hP hD hS hl
    unfold p_X5_readTrade_B51 at hf
    refine lv_aload_n hx hb dX5_readTrade_51 rfl (lv_at hl 0 rfl) ?_
    refine lv_aload_n hx hb dX5_readTrade_52 rfl (lv_at hl 1 rfl) ?_
    refine lv_iconst (v := (nI 0)) hx hb dX5_readTrade_53 (ic_0) ?_
    refine lv_iconst (v := (nI 2)) hx hb dX5_readTrade_54 (ic_2) ?_
    obtain ⟨⟨r55, f_55, fo1_55⟩, hc55, hf⟩ := bd_e hf
    try dsimp only at hf
    refine cl_i_up (Wd := (wX5 G ad (add 0) f ++ (wX0 G add fdraft ++ (wX4 G ao1 fo1)))) (Wc := (wX5 G ad (add 0) f ++ (wX4 G ao1 fo1))) (W' := (wX5 G ad (add 0) f_55 ++ (wX4 G ao1 fo1_55))) (W2 := (wX5 G ad (add 0) f_55 ++ (wX0 G add fdraft ++ (wX4 G ao1 fo1_55)))) (Wr := (wX0 G add fdraft)) [0, 12, 13] [1, 2, 3, 4, 5, 6, 7, 8, 9, 10, 11] rfl rfl rfl rfl rfl rfl (va_runV (As := [.ref (ao1 0), .int (nI 0), .int (nI 2)]) (rest := []) hC (c_X5_nextNumber l G ad add ao1 f fo1 (nI 0) (nI 2) r55 f_55 fo1_55 hc55 _) (cwV 3 hts gX5_readTrade_X5_nextNumber rfl rfl rfl (by decide +kernel) ⟨Nat.le_of_ble_eq_true rfl, Nat.le_of_ble_eq_true rfl⟩) ⟨Pc0_blind, va_recv hT hP (q0 := 0) (ci := 5) rfl rfl, fun U hU hW => Pc0_at (Wd := (wX5 G ad (add 0) f ++ (wX4 G ao1 fo1))) hE (hP.subm [0, 12, 13] rfl) (hD.sub [0, 12, 13] (by decide) rfl) hU hW⟩ rfl rfl hl.1 rfl (lv_room (Nat.le_of_ble_eq_true rfl)) dX5_readTrade_55 ⟨Nat.zero_le _, Nat.zero_le _⟩) hS hA hP hD (fun H locs hP hD hS => ?_)
    refine lv_istore (lv' := [(4, .int r55), (0, .ref (ad 0)), (1, .ref (ao1 0)), (2, .int x2), (3, .int x3)]) hx hb dX5_readTrade_58 hl (by decide) rfl (fun ls hl => ?_)
    refine lv_aload_n hx hb dX5_readTrade_60 rfl (lv_at hl 1 rfl) ?_
    refine lv_aload_n hx hb dX5_readTrade_61 rfl (lv_at hl 2 rfl) ?_
    refine lv_iconst (v := (nI 1)) hx hb dX5_readTrade_62 (ic_1) ?_
    refine lv_bipush (v := (nI 9)) hx hb dX5_readTrade_63 (bi_9) ?_
    obtain ⟨⟨r65, f_65, fo1_65⟩, hc65, hf⟩ := bd_e hf
    try dsimp only at hf
    refine cl_i_up (Wd := (wX5 G ad (add 0) f_55 ++ (wX0 G add fdraft ++ (wX4 G ao1 fo1_55)))) (Wc := (wX5 G ad (add 0) f_55 ++ (wX4 G ao1 fo1_55))) (W' := (wX5 G ad (add 0) f_65 ++ (wX4 G ao1 fo1_65))) (W2 := (wX5 G ad (add 0) f_65 ++ (wX0 G add fdraft ++ (wX4 G ao1 fo1_65)))) (Wr := (wX0 G add fdraft)) [0, 12, 13] [1, 2, 3, 4, 5, 6, 7, 8, 9, 10, 11] rfl rfl rfl rfl rfl rfl (va_runV (As := [.ref (ao1 0), .int (nI 1), .int (nI 9)]) (rest := []) hC (c_X5_nextNumber l G ad add ao1 f_55 fo1_55 (nI 1) (nI 9) r65 f_65 fo1_65 hc65 _) (cwV 3 hts gX5_readTrade_X5_nextNumber rfl rfl rfl (by decide +kernel) ⟨Nat.le_of_ble_eq_true rfl, Nat.le_of_ble_eq_true rfl⟩) ⟨Pc0_blind, va_recv hT hP (q0 := 0) (ci := 5) rfl rfl, fun U hU hW => Pc0_at (Wd := (wX5 G ad (add 0) f_55 ++ (wX4 G ao1 fo1_55))) hE (hP.subm [0, 12, 13] rfl) (hD.sub [0, 12, 13] (by decide) rfl) hU hW⟩ rfl rfl hl.1 rfl (lv_room (Nat.le_of_ble_eq_true rfl)) dX5_readTrade_65 ⟨Nat.zero_le _, Nat.zero_le _⟩) hS hA hP hD (fun H locs hP hD hS => ?_)
    refine lv_istore (lv' := [(5, .int r65), (4, .int r55), (0, .ref (ad 0)), (1, .ref (ao1 0)), (2, .int x2), (3, .int x3)]) hx hb dX5_readTrade_68 hl (by decide) rfl (fun ls hl => ?_)
    refine lv_aload_n hx hb dX5_readTrade_70 rfl (lv_at hl 2 rfl) ?_
    refine lv_aload_n hx hb dX5_readTrade_71 rfl (lv_at hl 3 rfl) ?_
    obtain ⟨⟨r72, f_72, fo1_72⟩, hc72, hf⟩ := bd_e hf
    try dsimp only at hf
    refine cl_z_up (Wd := (wX5 G ad (add 0) f_65 ++ (wX0 G add fdraft ++ (wX4 G ao1 fo1_65)))) (Wc := (wX5 G ad (add 0) f_65 ++ (wX4 G ao1 fo1_65))) (W' := (wX5 G ad (add 0) f_72 ++ (wX4 G ao1 fo1_72))) (W2 := (wX5 G ad (add 0) f_72 ++ (wX0 G add fdraft ++ (wX4 G ao1 fo1_72)))) (Wr := (wX0 G add fdraft)) [0, 12, 13] [1, 2, 3, 4, 5, 6, 7, 8, 9, 10, 11] rfl rfl rfl rfl rfl rfl (va_runV (As := [.ref (ao1 0)]) (rest := []) hC (c_X5_isLineEnded l G ad add ao1 f_65 fo1_65 r72 f_72 fo1_72 hc72 _) (cwV 1 hts gX5_readTrade_X5_isLineEnded rfl rfl rfl (by decide +kernel) ⟨Nat.le_of_ble_eq_true rfl, Nat.le_of_ble_eq_true rfl⟩) ⟨Pc0_blind, va_recv hT hP (q0 := 0) (ci := 5) rfl rfl, fun U hU hW => Pc0_at (Wd := (wX5 G ad (add 0) f_65 ++ (wX4 G ao1 fo1_65))) hE (hP.subm [0, 12, 13] rfl) (hD.sub [0, 12, 13] (by decide) rfl) hU hW⟩ rfl rfl hl.1 rfl (lv_room (Nat.le_of_ble_eq_true rfl)) dX5_readTrade_72 ⟨Nat.zero_le _, Nat.zero_le _⟩) hS hA hP hD (fun H locs hn72 hP hD hS => ?_)
    refine lv_if_eq (tgt := 105) hx hb dX5_readTrade_75 (by decide) (fun hc => ?_) (fun hc => ?_)
    · have hf := if_t hf hc
      have hK9 := K0_of hf hK
      exact hRet f_72 fdraft fo1_72 _ _ _ _ hK9 dX5_readTrade_105 hP hD hS
    · have hf := if_f hf hc
      refine lv_aload_n hx hb dX5_readTrade_78 rfl (lv_at hl 2 rfl) ?_
      refine lv_dup hx hb dX5_readTrade_79 rfl ?_
      refine va_get (C := RX5) (T := TX5) (N := 7) (ci := 5) (v := .int (f_72 0 5)) hx hb hts inX5 hown hT hP 0 rfl rfl 6 (Nat.le_of_ble_eq_true rfl) lk34 (fun _ h => h) rfl dX5_readTrade_80 ?_
      refine lv_iconst (v := (nI 1)) hx hb dX5_readTrade_83 (ic_1) ?_
      refine lv_iload hx hb dX5_readTrade_84 (lv_at hl 1 rfl) ?_
      refine lv_ishl hx hb dX5_readTrade_86 ?_
      refine lv_ior hx hb dX5_readTrade_87 ?_
      refine va_put (C := RX5) (T := TX5) (N := 7) (ci := 5) (ty := .int) (v := .int ((f_72 0 5) ||| ((nI 1) <<< (r55 &&& 31)))) hx hb hts inX5 tyX5 tyX5_ok nmX5 hown hT hP hD hS 0 rfl rfl 6 (Nat.le_of_ble_eq_true rfl) lk34 (fun _ h => h) rfl (by decide +kernel) rfl rfl (Nat.le_of_ble_eq_true rfl) dX5_readTrade_88 (fun H locs hP hD hS => ?_)
      have hP : va_P G.1 vwCl (wX5 G ad (add 0) (mset 0 5 ((f_72 0 5) ||| ((nI 1) <<< (r55 &&& 31))) f_72) ++ (wX0 G add fdraft ++ (wX4 G ao1 fo1_72))) H := hP
      have hD : va_D A (wX5 G ad (add 0) (mset 0 5 ((f_72 0 5) ||| ((nI 1) <<< (r55 &&& 31))) f_72) ++ (wX0 G add fdraft ++ (wX4 G ao1 fo1_72))) := hD
      refine lv_aload_n hx hb dX5_readTrade_91 rfl (lv_at hl 2 rfl) ?_
      refine va_get (C := RX5) (T := TX5) (N := 7) (ci := 5) (v := .ref (add 0)) hx hb hts inX5 hown hT hP 0 rfl rfl 0 (Nat.le_of_ble_eq_true rfl) lk12 (fun _ h => h) rfl dX5_readTrade_92 ?_
      refine lv_iload_n hx hb dX5_readTrade_95 rfl (lv_at hl 4 rfl) ?_
      refine lv_iload_n hx hb dX5_readTrade_96 rfl (lv_at hl 5 rfl) ?_
      refine lv_iload hx hb dX5_readTrade_97 (lv_at hl 1 rfl) ?_
      refine lv_iload hx hb dX5_readTrade_99 (lv_at hl 0 rfl) ?_
      obtain ⟨⟨r101, fdraft_101⟩, hc101, hf⟩ := bd_e hf
      try dsimp only at hf
      refine cl_z_up (Wd := (wX5 G ad (add 0) (mset 0 5 ((f_72 0 5) ||| ((nI 1) <<< (r55 &&& 31))) f_72) ++ (wX0 G add fdraft ++ (wX4 G ao1 fo1_72)))) (Wc := (wX0 G add fdraft)) (W' := (wX0 G add fdraft_101)) (W2 := (wX5 G ad (add 0) (mset 0 5 ((f_72 0 5) ||| ((nI 1) <<< (r55 &&& 31))) f_72) ++ (wX0 G add fdraft_101 ++ (wX4 G ao1 fo1_72)))) (Wr := (wX5 G ad (add 0) (mset 0 5 ((f_72 0 5) ||| ((nI 1) <<< (r55 &&& 31))) f_72) ++ (wX4 G ao1 fo1_72))) [1, 2, 3, 4, 5, 6, 7, 8, 9, 10, 11] [0, 12, 13] rfl rfl rfl rfl rfl rfl (va_runVN (As := [.int x2, .int x3, .int r55, .int r65]) (rest := []) hC (c_X0_addToPlan l G add fdraft x2 x3 r55 r65 r101 fdraft_101 hc101 _) ⟨va_cnB 4 hts gX5_readTrade_X0_addToPlan_n124 rfl rfl rfl (hE.2.2 (RX5, 124, yX0_addToPlan, "FeatherShares") (List.mem_of_getElem? (i := 55) rfl)) (hts (.initialized RX0) (by decide +kernel)) (by decide +kernel) ⟨Nat.le_of_ble_eq_true rfl, Nat.le_of_ble_eq_true rfl⟩, hts (.instanceMethod yX0_addToPlan) (by decide +kernel), hts (.selects RX0 yX0_addToPlan yX0_addToPlan) (by decide +kernel)⟩ ⟨Pc0_blind, va_recv hT hP (q0 := 1) (ci := 0) rfl rfl, fun U hU hW => Pc0_at (Wd := (wX0 G add fdraft)) hE (hP.subm [1, 2, 3, 4, 5, 6, 7, 8, 9, 10, 11] rfl) (hD.sub [1, 2, 3, 4, 5, 6, 7, 8, 9, 10, 11] (by decide) rfl) hU hW⟩ rfl rfl hl.1 rfl (lv_room (Nat.le_of_ble_eq_true rfl)) dX5_readTrade_101 ⟨Nat.zero_le _, Nat.zero_le _⟩) hS hA hP hD (fun H locs hn101 hP hD hS => ?_)
      refine lv_pop hx hb dX5_readTrade_104 rfl ?_
      have hK9 := K0_of hf hK
      exact hRet (mset 0 5 ((f_72 0 5) ||| ((nI 1) <<< (r55 &&& 31))) f_72) fdraft_101 fo1_72 _ _ _ _ hK9 dX5_readTrade_105 hP hD hS
  have hB21 : ∀ (f : Mem) (fdraft : Mem) (fo1 : Mem) (res : Mem × Mem × Mem) (hf : p_X5_readTrade_B21 f fdraft fo1 = some res) (hK : res = (fz, fdraftz, fo1z)), ∀ (H : Heap) (locs : List Loc) (ls : Array Slot), va_P G.1 vwCl (wX5 G ad (add 0) f ++ (wX0 G add fdraft ++ (wX4 G ao1 fo1))) H → va_D A (wX5 G ad (add 0) f ++ (wX0 G add fdraft ++ (wX4 G ao1 fo1))) → va_S A s.heap H locs → lv_has ls 6 [(0, .ref (ad 0)), (1, .ref (ao1 0))] → W p l e ({ frames := 5, cells := 0, slots := 0, locals := 95 }) s m args below meth c H locs 0 0 Q (F0 m 21 ls []) := by
    intro f fdraft fo1 res hf hK H locs ls hP hD hS hl
    unfold p_X5_readTrade_B21 at hf
    refine lv_aload_n hx hb dX5_readTrade_21 rfl (lv_at hl 0 rfl) ?_
    refine lv_aload_n hx hb dX5_readTrade_22 rfl (lv_at hl 1 rfl) ?_
    refine lv_iconst (v := (nI 0)) hx hb dX5_readTrade_23 (ic_0) ?_
    refine lv_iconst (v := (nI 4)) hx hb dX5_readTrade_24 (ic_4) ?_
    obtain ⟨⟨r25, f_25, fo1_25⟩, hc25, hf⟩ := bd_e hf
    try dsimp only at hf
    refine cl_i_up (Wd := (wX5 G ad (add 0) f ++ (wX0 G add fdraft ++ (wX4 G ao1 fo1)))) (Wc := (wX5 G ad (add 0) f ++ (wX4 G ao1 fo1))) (W' := (wX5 G ad (add 0) f_25 ++ (wX4 G ao1 fo1_25))) (W2 := (wX5 G ad (add 0) f_25 ++ (wX0 G add fdraft ++ (wX4 G ao1 fo1_25)))) (Wr := (wX0 G add fdraft)) [0, 12, 13] [1, 2, 3, 4, 5, 6, 7, 8, 9, 10, 11] rfl rfl rfl rfl rfl rfl (va_runV (As := [.ref (ao1 0), .int (nI 0), .int (nI 4)]) (rest := []) hC (c_X5_nextNumber l G ad add ao1 f fo1 (nI 0) (nI 4) r25 f_25 fo1_25 hc25 _) (cwV 3 hts gX5_readTrade_X5_nextNumber rfl rfl rfl (by decide +kernel) ⟨Nat.le_of_ble_eq_true rfl, Nat.le_of_ble_eq_true rfl⟩) ⟨Pc0_blind, va_recv hT hP (q0 := 0) (ci := 5) rfl rfl, fun U hU hW => Pc0_at (Wd := (wX5 G ad (add 0) f ++ (wX4 G ao1 fo1))) hE (hP.subm [0, 12, 13] rfl) (hD.sub [0, 12, 13] (by decide) rfl) hU hW⟩ rfl rfl hl.1 rfl (lv_room (Nat.le_of_ble_eq_true rfl)) dX5_readTrade_25 ⟨Nat.zero_le _, Nat.zero_le _⟩) hS hA hP hD (fun H locs hP hD hS => ?_)
    refine lv_istore_n (lv' := [(2, .int r25), (0, .ref (ad 0)), (1, .ref (ao1 0))]) hx hb dX5_readTrade_28 rfl hl (by decide) rfl (fun ls hl => ?_)
    refine lv_aload_n hx hb dX5_readTrade_29 rfl (lv_at hl 1 rfl) ?_
    refine lv_aload_n hx hb dX5_readTrade_30 rfl (lv_at hl 2 rfl) ?_
    refine lv_iconst (v := (nI 0)) hx hb dX5_readTrade_31 (ic_0) ?_
    refine lv_iconst (v := (nI 4)) hx hb dX5_readTrade_32 (ic_4) ?_
    obtain ⟨⟨r33, f_33, fo1_33⟩, hc33, hf⟩ := bd_e hf
    try dsimp only at hf
    refine cl_i_up (Wd := (wX5 G ad (add 0) f_25 ++ (wX0 G add fdraft ++ (wX4 G ao1 fo1_25)))) (Wc := (wX5 G ad (add 0) f_25 ++ (wX4 G ao1 fo1_25))) (W' := (wX5 G ad (add 0) f_33 ++ (wX4 G ao1 fo1_33))) (W2 := (wX5 G ad (add 0) f_33 ++ (wX0 G add fdraft ++ (wX4 G ao1 fo1_33)))) (Wr := (wX0 G add fdraft)) [0, 12, 13] [1, 2, 3, 4, 5, 6, 7, 8, 9, 10, 11] rfl rfl rfl rfl rfl rfl (va_runV (As := [.ref (ao1 0), .int (nI 0), .int (nI 4)]) (rest := []) hC (c_X5_nextNumber l G ad add ao1 f_25 fo1_25 (nI 0) (nI 4) r33 f_33 fo1_33 hc33 _) (cwV 3 hts gX5_readTrade_X5_nextNumber rfl rfl rfl (by decide +kernel) ⟨Nat.le_of_ble_eq_true rfl, Nat.le_of_ble_eq_true rfl⟩) ⟨Pc0_blind, va_recv hT hP (q0 := 0) (ci := 5) rfl rfl, fun U hU hW => Pc0_at (Wd := (wX5 G ad (add 0) f_25 ++ (wX4 G ao1 fo1_25))) hE (hP.subm [0, 12, 13] rfl) (hD.sub [0, 12, 13] (by decide) rfl) hU hW⟩ rfl rfl hl.1 rfl (lv_room (Nat.le_of_ble_eq_true rfl)) dX5_readTrade_33 ⟨Nat.zero_le _, Nat.zero_le _⟩) hS hA hP hD (fun H locs hP hD hS => ?_)
    refine lv_istore_n (lv' := [(3, .int r33), (2, .int r25), (0, .ref (ad 0)), (1, .ref (ao1 0))]) hx hb dX5_readTrade_36 rfl hl (by decide) rfl (fun ls hl => ?_)
    refine lv_iload_n hx hb dX5_readTrade_37 rfl (lv_at hl 0 rfl) ?_
    refine lv_iload_n hx hb dX5_readTrade_38 rfl (lv_at hl 1 rfl) ?_
    refine lv_icmp_ne (tgt := 51) hx hb dX5_readTrade_39 (by decide) (fun hc => ?_) (fun hc => ?_)
    · have hf := if_f hf hc
      exact hB51 f_33 fdraft fo1_33 r25 r33 _ hf hK _ _ _ hP hD hS (lv_sub hl [2, 3, 1, 0] rfl)
    · have hf := if_t hf hc
      refine lv_aload_n hx hb dX5_readTrade_42 rfl (lv_at hl 2 rfl) ?_
      refine lv_iconst (v := (nI 3)) hx hb dX5_readTrade_43 (ic_3) ?_
      refine lv_aload_n hx hb dX5_readTrade_44 rfl (lv_at hl 3 rfl) ?_
      refine va_getN (C := RX4) (T := TX4) (N := 6) (ci := 4) (v := .int (fo1_33 0 2)) hx hb hts inX4 hown hT hP 12 rfl rfl 3 (Nat.le_of_ble_eq_true rfl) lk65 (fun _ h => h) rfl dX5_readTrade_45 ?_
      obtain ⟨f_48, hc48, hf⟩ := bd_e hf
      refine cl_v_up (Wd := (wX5 G ad (add 0) f_33 ++ (wX0 G add fdraft ++ (wX4 G ao1 fo1_33)))) (Wc := (wX5 G ad (add 0) f_33)) (W' := (wX5 G ad (add 0) f_48)) (W2 := (wX5 G ad (add 0) f_48 ++ (wX0 G add fdraft ++ (wX4 G ao1 fo1_33)))) (Wr := (wX0 G add fdraft ++ (wX4 G ao1 fo1_33))) [0] [1, 2, 3, 4, 5, 6, 7, 8, 9, 10, 11, 12, 13] rfl rfl rfl rfl rfl rfl (va_runV (As := [.int (nI 3), .int (fo1_33 0 2)]) (rest := []) hC (c_X5_refuse l G ad add f_33 (nI 3) (fo1_33 0 2) f_48 hc48 _) (cwV 2 hts gX5_readTrade_X5_refuse rfl rfl rfl (by decide +kernel) ⟨Nat.le_of_ble_eq_true rfl, Nat.le_of_ble_eq_true rfl⟩) ⟨Pc0_blind, va_recv hT hP (q0 := 0) (ci := 5) rfl rfl, fun U hU hW => Pc0_at (Wd := (wX5 G ad (add 0) f_33)) hE (hP.subm [0] rfl) (hD.sub [0] (by decide) rfl) hU hW⟩ rfl rfl hl.1 rfl (lv_room (Nat.le_of_ble_eq_true rfl)) dX5_readTrade_48 ⟨Nat.zero_le _, Nat.zero_le _⟩) hS hA hP hD (fun H locs hP hD hS => ?_)
      exact hB51 f_48 fdraft fo1_33 r25 r33 _ hf hK _ _ _ hP hD hS (lv_sub hl [2, 3, 1, 0] rfl)
  obtain ⟨res, hres, hK⟩ : ∃ res, p_X5_readTrade f fdraft fo1 = some res ∧ res = (fz, fdraftz, fo1z) := ⟨_, hf, rfl⟩
  clear hf
  have hf := hres
  clear hres
  unfold p_X5_readTrade at hf
  refine lv_aload_n hx hb dX5_readTrade_0 rfl (lv_at hl 0 rfl) ?_
  refine va_get (C := RX5) (T := TX5) (N := 7) (ci := 5) (v := .ref (add 0)) hx hb hts inX5 hown hT hP 0 rfl rfl 0 (Nat.le_of_ble_eq_true rfl) lk12 (fun _ h => h) rfl dX5_readTrade_1 ?_
  refine va_getN (C := RX0) (T := TX0) (N := 13) (ci := 0) (v := .int (fdraft 0 2)) hx hb hts inX0 hown hT hP 1 rfl rfl 2 (Nat.le_of_ble_eq_true rfl) lk121 (fun _ h => h) rfl dX5_readTrade_4 ?_
  refine lv_bipush (v := (nI 6)) hx hb dX5_readTrade_7 (bi_6) ?_
  refine lv_icmp_lt (tgt := 21) hx hb dX5_readTrade_9 (by decide) (fun hc => ?_) (fun hc => ?_)
  · have hf := if_t hf hc
    exact hB21 f fdraft fo1 _ hf hK _ _ _ hP hD hS (lv_sub hl [0, 1] rfl)
  · have hf := if_f hf hc
    refine lv_aload_n hx hb dX5_readTrade_12 rfl (lv_at hl 0 rfl) ?_
    refine lv_iconst (v := (nI 5)) hx hb dX5_readTrade_13 (ic_5) ?_
    refine lv_aload_n hx hb dX5_readTrade_14 rfl (lv_at hl 1 rfl) ?_
    refine va_getN (C := RX4) (T := TX4) (N := 6) (ci := 4) (v := .int (fo1 0 2)) hx hb hts inX4 hown hT hP 12 rfl rfl 3 (Nat.le_of_ble_eq_true rfl) lk65 (fun _ h => h) rfl dX5_readTrade_15 ?_
    obtain ⟨f_18, hc18, hf⟩ := bd_e hf
    refine cl_v_up (Wd := (wX5 G ad (add 0) f ++ (wX0 G add fdraft ++ (wX4 G ao1 fo1)))) (Wc := (wX5 G ad (add 0) f)) (W' := (wX5 G ad (add 0) f_18)) (W2 := (wX5 G ad (add 0) f_18 ++ (wX0 G add fdraft ++ (wX4 G ao1 fo1)))) (Wr := (wX0 G add fdraft ++ (wX4 G ao1 fo1))) [0] [1, 2, 3, 4, 5, 6, 7, 8, 9, 10, 11, 12, 13] rfl rfl rfl rfl rfl rfl (va_runV (As := [.int (nI 5), .int (fo1 0 2)]) (rest := []) hC (c_X5_refuse l G ad add f (nI 5) (fo1 0 2) f_18 hc18 _) (cwV 2 hts gX5_readTrade_X5_refuse rfl rfl rfl (by decide +kernel) ⟨Nat.le_of_ble_eq_true rfl, Nat.le_of_ble_eq_true rfl⟩) ⟨Pc0_blind, va_recv hT hP (q0 := 0) (ci := 5) rfl rfl, fun U hU hW => Pc0_at (Wd := (wX5 G ad (add 0) f)) hE (hP.subm [0] rfl) (hD.sub [0] (by decide) rfl) hU hW⟩ rfl rfl hl.1 rfl (lv_room (Nat.le_of_ble_eq_true rfl)) dX5_readTrade_18 ⟨Nat.zero_le _, Nat.zero_le _⟩) hS hA hP hD (fun H locs hP hD hS => ?_)
    exact hB21 f_18 fdraft fo1 _ hf hK _ _ _ hP hD hS (lv_sub hl [0, 1] rfl)
noncomputable def p_X6_isSheet (x0 : Int32) : Option (Int32) :=
  Option.bind (p_X6_isWithin x0 (nI 0) (nI 3)) <| fun r3 =>
  some r3
set_option maxHeartbeats 4000000 in
set_option maxRecDepth 100000 in
theorem c_X6_isSheet (l : Launch) (G : Gt)  (x0 : Int32) (r : Int32) (hf : p_X6_isSheet x0 = some r) (sz : Nat) : Met l yX6_isSheet wsX6_isSheet ({ frames := 2, cells := 0, slots := 0, locals := 34 }) (Pc0 G sz [.int x0] ([] : va_W)) (Qz0 G (va_A ([] : va_W) sz) r ([] : va_W)) 0 0 (va_A ([] : va_W) sz) := by
  refine metP (Qf := fun A => Qz0 G A r ([] : va_W)) cX6_isSheet 1 (some .boolean) (by decide) rfl (Nat.le_of_ble_eq_true rfl) ?_
  intro p e s m below meth c A ls hC hr hlocks hin hE hA hsz hP hD hS hl
  generalize hargs : ([.int x0] : List Value).toArray = args at hC ⊢
  obtain ⟨hx, hb, hml, hown, hts⟩ := id hC
  have hT : va_K G.1 vwCl (tyL G) s := hE.1
  have hRet : ∀ (r9 : Int32) (H : Heap) (locs : List Loc) (ls : Array Slot) (pc : Nat) (hK9 : r9 = r) (hn9 : narrow .boolean (.int r9) = .int r9) (hdg : decode cX6_isSheet pc = .ok (.ireturn, 1)), va_P G.1 vwCl ([] : va_W) H → va_D A ([] : va_W) → va_S A s.heap H locs → W p l e ({ frames := 2, cells := 0, slots := 0, locals := 34 }) s m args below meth c H locs 0 0 (MQ below (Qz0 G A r ([] : va_W)) args s 0 0 A) (F0 m pc ls [.int r9]) := by
    intro r9 H locs ls pc hK9 hn9 hdg hP hD hS
    cases hK9
    exact W.zret hx hb hr hn9 (fun t ht hW => ⟨⟨r, (), rfl, ⟨rfl, hn9⟩, by rw [ht]; exact hP, hD⟩, hS.F ht⟩) hS.2.2 hdg hlocks
  generalize MQ below (Qz0 G A r ([] : va_W)) args s 0 0 A = Q at hRet ⊢
  have hl : lv_has ls 1 [(0, .int x0)] := hl
  have hK0 : r = r := rfl
  obtain ⟨res, hres, hK⟩ : ∃ res, p_X6_isSheet x0 = some res ∧ res = r := ⟨_, hf, rfl⟩
  clear hf
  have hf := hres
  clear hres
  unfold p_X6_isSheet at hf
  refine lv_iload_n hx hb dX6_isSheet_0 rfl (lv_at hl 0 rfl) ?_
  refine lv_iconst (v := (nI 0)) hx hb dX6_isSheet_1 (ic_0) ?_
  refine lv_iconst (v := (nI 3)) hx hb dX6_isSheet_2 (ic_3) ?_
  obtain ⟨r3, hc3, hf⟩ := bd_e hf
  refine cl_z_same (Wd := ([] : va_W)) (W' := ([] : va_W)) (va_runS (As := [.int x0, .int (nI 0), .int (nI 3)]) (rest := []) hC (c_X6_isWithin l G x0 (nI 0) (nI 3) r3 hc3 _) (va_cwS 3 hts gX6_isSheet_X6_isWithin rfl rfl rfl (by decide +kernel) ⟨Nat.le_of_ble_eq_true rfl, Nat.le_of_ble_eq_true rfl⟩) ⟨Pc0_blind, fun U hU hW => Pc0_at hE hP hD hU hW⟩ rfl rfl hl.1 rfl (lv_room (Nat.le_of_ble_eq_true rfl)) dX6_isSheet_3 ⟨Nat.zero_le _, Nat.zero_le _⟩) hS hA hD (fun H locs hn3 hP hD hS => ?_)
  have hK9 := K0_of hf hK
  exact hRet r3 _ _ _ _ hK9 hn3 dX6_isSheet_6 hP hD hS
noncomputable def p_X6_isLane (x0 : Int32) : Option (Int32) :=
  Option.bind (p_X6_isWithin x0 (nI 0) (nI 2)) <| fun r3 =>
  some r3
set_option maxHeartbeats 4000000 in
set_option maxRecDepth 100000 in
theorem c_X6_isLane (l : Launch) (G : Gt)  (x0 : Int32) (r : Int32) (hf : p_X6_isLane x0 = some r) (sz : Nat) : Met l yX6_isLane wsX6_isLane ({ frames := 2, cells := 0, slots := 0, locals := 34 }) (Pc0 G sz [.int x0] ([] : va_W)) (Qz0 G (va_A ([] : va_W) sz) r ([] : va_W)) 0 0 (va_A ([] : va_W) sz) := by
  refine metP (Qf := fun A => Qz0 G A r ([] : va_W)) cX6_isLane 1 (some .boolean) (by decide) rfl (Nat.le_of_ble_eq_true rfl) ?_
  intro p e s m below meth c A ls hC hr hlocks hin hE hA hsz hP hD hS hl
  generalize hargs : ([.int x0] : List Value).toArray = args at hC ⊢
  obtain ⟨hx, hb, hml, hown, hts⟩ := id hC
  have hT : va_K G.1 vwCl (tyL G) s := hE.1
  have hRet : ∀ (r9 : Int32) (H : Heap) (locs : List Loc) (ls : Array Slot) (pc : Nat) (hK9 : r9 = r) (hn9 : narrow .boolean (.int r9) = .int r9) (hdg : decode cX6_isLane pc = .ok (.ireturn, 1)), va_P G.1 vwCl ([] : va_W) H → va_D A ([] : va_W) → va_S A s.heap H locs → W p l e ({ frames := 2, cells := 0, slots := 0, locals := 34 }) s m args below meth c H locs 0 0 (MQ below (Qz0 G A r ([] : va_W)) args s 0 0 A) (F0 m pc ls [.int r9]) := by
    intro r9 H locs ls pc hK9 hn9 hdg hP hD hS
    cases hK9
    exact W.zret hx hb hr hn9 (fun t ht hW => ⟨⟨r, (), rfl, ⟨rfl, hn9⟩, by rw [ht]; exact hP, hD⟩, hS.F ht⟩) hS.2.2 hdg hlocks
  generalize MQ below (Qz0 G A r ([] : va_W)) args s 0 0 A = Q at hRet ⊢
  have hl : lv_has ls 1 [(0, .int x0)] := hl
  have hK0 : r = r := rfl
  obtain ⟨res, hres, hK⟩ : ∃ res, p_X6_isLane x0 = some res ∧ res = r := ⟨_, hf, rfl⟩
  clear hf
  have hf := hres
  clear hres
  unfold p_X6_isLane at hf
  refine lv_iload_n hx hb dX6_isLane_0 rfl (lv_at hl 0 rfl) ?_
  refine lv_iconst (v := (nI 0)) hx hb dX6_isLane_1 (ic_0) ?_
  refine lv_iconst (v := (nI 2)) hx hb dX6_isLane_2 (ic_2) ?_
  obtain ⟨r3, hc3, hf⟩ := bd_e hf
  refine cl_z_same (Wd := ([] : va_W)) (W' := ([] : va_W)) (va_runS (As := [.int x0, .int (nI 0), .int (nI 2)]) (rest := []) hC (c_X6_isWithin l G x0 (nI 0) (nI 2) r3 hc3 _) (va_cwS 3 hts gX6_isLane_X6_isWithin rfl rfl rfl (by decide +kernel) ⟨Nat.le_of_ble_eq_true rfl, Nat.le_of_ble_eq_true rfl⟩) ⟨Pc0_blind, fun U hU hW => Pc0_at hE hP hD hU hW⟩ rfl rfl hl.1 rfl (lv_room (Nat.le_of_ble_eq_true rfl)) dX6_isLane_3 ⟨Nat.zero_le _, Nat.zero_le _⟩) hS hA hD (fun H locs hn3 hP hD hS => ?_)
  have hK9 := K0_of hf hK
  exact hRet r3 _ _ _ _ hK9 hn3 dX6_isLane_6 hP hD hS
