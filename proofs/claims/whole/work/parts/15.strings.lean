/-! ===== string constants: the seven names of lines ===== -/
def lenS : List Nat := [5, 7, 4, 5, 5, 5, 5]
def bytS : List (List Int32) := [[112, 108, 97, 105, 110], [109, 111, 117, 108, 116, 101, 114], [115, 119, 97, 110], [100, 114, 97, 107, 101], [115, 104, 97, 114, 101], [109, 111, 110, 101, 121], [116, 114, 97, 100, 101]]
def cpS : List (Nat × String) := [(86, "plain"), (92, "moulter"), (94, "swan"), (96, "drake"), (98, "share"), (100, "money"), (102, "trade")]
def SV (sk sv : Nat → Nat) (A : Nat → Prop) (U : State) (H : Heap) : Prop := vk_S 7 lenS bytS sk sv A U H ∧ va_Z "java/lang/String" "COMPACT_STRINGS" "Z" (.int 1) A U H ∧ va_Zq "jdk/internal/util/Preconditions" "SIOOBE_FORMATTER" "Ljava/util/function/BiFunction;" A U H ∧ ∀ i : Nat, i < 7 → vk_R RX5 (cpS.getD i (0, "")).1 (cpS.getD i (0, "")).2 (sk i) U
theorem SV.warm {sk sv : Nat → Nat} {A : Nat → Prop} {s U : State} {H : Heap} (hW : s.WarmedH U.vm) (h : SV sk sv A s H) : SV sk sv A U H := ⟨h.1.moved hW.alike, h.2.1.moved hW.alike, h.2.2.1.moved hW.alike, fun i hi => (h.2.2.2 i hi).warm hW⟩
theorem SV.same {sk sv : Nat → Nat} {A : Nat → Prop} {u U : State} {H : Heap} (e : u.vm = U.vm) (h : SV sk sv A u H) : SV sk sv A U H := by
  have ha : u.vm.Alike U.vm := by rw [e]; exact Vm.Alike.refl _
  exact ⟨h.1.moved ha, h.2.1.moved ha, h.2.2.1.moved ha, fun i hi => (h.2.2.2 i hi).same e.symm⟩
theorem SV.kept {sk sv : Nat → Nat} {A : Nat → Prop} {U : State} {H H1 : Heap} (h : SV sk sv A U H) (hq : ∀ a : Nat, a < H.size → ¬ A a → H1[a]? = H[a]?) : SV sk sv A U H1 := ⟨h.1.kept hq, h.2.1.kept hq, h.2.2.1.kept hq, h.2.2.2⟩
theorem SV.narrow {sk sv : Nat → Nat} {A B : Nat → Prop} {U : State} {H : Heap} (h : SV sk sv A U H) (hAB : ∀ q, B q → A q) : SV sk sv B U H := ⟨h.1.narrow hAB, h.2.1.narrow hAB, h.2.2.1.narrow hAB, h.2.2.2⟩
def Pc1 (G : Gt) (sk sv : Nat → Nat) (sz : Nat) (av : List Value) (Wd : va_W) : Array Value → State → Prop := va_Pc av (fun U => U.heap.size = sz ∧ va_P G.1 vwCl Wd U.heap ∧ EV G U ∧ va_D (fun _ => True) Wd ∧ SV sk sv (va_A Wd sz) U U.heap)
theorem Pc1_blind {G : Gt} {sk sv : Nat → Nat} {sz : Nat} {av : List Value} {Wd : va_W} : FrameBlind (Pc1 G sk sv sz av Wd) := fun a U g mk q => by
  obtain ⟨q0, q1, qP, qE, qD, qZ⟩ := q
  exact ⟨q0, q1, qP, EV.same (u := U) (U := U.calling g mk a) rfl qE, qD, SV.same (u := U) (U := U.calling g mk a) rfl qZ⟩
theorem Pc1_at {G : Gt} {sk sv : Nat → Nat} {s U : State} {H : Heap} {locs : List Loc} {av : List Value} {Wd : va_W} {A A0 : Nat → Prop} (hE : EV G s) (hZ : SV sk sv A0 s s.heap) (hS : va_S A0 s.heap H locs) (hF : ∀ q, va_A Wd H.size q → A0 q) (hP : va_P G.1 vwCl Wd H) (hD : va_D A Wd) (hU : U.heap = H) (hW : s.WarmedH U.vm) : Pc1 G sk sv H.size av Wd av.toArray U :=
  ⟨rfl, by rw [hU], by rw [hU]; exact hP, hE.warm hW, hD.weaken (fun _ _ _ _ => trivial), by rw [hU]; exact ((hZ.kept hS.2.1).narrow hF).warm hW⟩
theorem metP1 {l : Launch} {y : MethodName} {ws ws' : List Cond} {rm : Room} {G : Gt} {sk sv : Nat → Nat} {sz : Nat} {av : List Value} {Wd : va_W} {Qf : (Nat → Prop) → Array Value → State → Outcome → State → Prop} {mc ms : Nat} (cc : ByteArray) (maxL : Nat) (ret : Option FieldType) (hy : plainName y.cls = true) (hw : ws = Cond.code y cc maxL ret :: ws') (hn : (lg_sl av).length ≤ maxL)
    (body : ∀ p e s m below meth c A ls, CallFix p m c cc maxL s av.toArray ws y.cls → meth.sig.returnType = ret → meth.locks = false → meth.name = y.name → EV G s → SV sk sv A s s.heap → (∀ q, s.heap.size ≤ q → A q) → s.heap.size = sz → va_P G.1 vwCl Wd s.heap → va_D A Wd → va_S A s.heap s.heap [] → lv_has ls maxL (lv_args 0 av) →
      W p l e rm s m av.toArray below meth c s.heap [] 0 0 (MQ below (Qf A) av.toArray s mc ms A) (F0 m 0 ls [])) : Met l y ws rm (Pc1 G sk sv sz av Wd) (Qf (va_A Wd sz)) mc ms (va_A Wd sz) := by
  refine Met.ofW (cc := cc) (maxL := maxL) (ret := ret) hy hw ?_
  intro p e s m args below meth c s₁ B hml hv
  obtain ⟨rfl, hsz, hP, hE, hD0, hZ⟩ := hv
  have hts := atoms_spec (ws := ws) B.pre
  have hown : s.vm.findClass y.cls = some m.cls := findClass_of_methodNamed B.named
  have hlocks := B.notSynchronized
  have hin : meth.name = y.name := (name_of_methodNamed B.named B.method).1
  subst hsz
  have hl := lv_entry av (n := maxL) hn
  rw [lg_entry_eq]
  exact body p e s m below meth c _ _ ⟨B.exec, B.bytes, hml, hown, hts⟩ B.returns hlocks hin hE hZ (fun q h => Or.inr h) rfl hP (hD0.self (sz := s.heap.size)) va_S.rf hl
def p_J0_length_8abf5 (w : Nat) : Option Int32 := if w < 7 then some (nI (lenS.getD w 0)) else none
def p_J0_charAt_5068e (w : Nat) (x1 : Int32) : Option Int32 := if w < 7 then gd (inb x1 (lenS.getD w 0)) (some ((bytS.getD w []).getD x1.toNatClampNeg 0 &&& 255)) else none
theorem J0_len_lt {w : Nat} {r : Int32} (h : p_J0_length_8abf5 w = some r) : w < 7 ∧ r = nI (lenS.getD w 0) := by
  unfold p_J0_length_8abf5 at h
  split at h
  · exact ⟨by assumption, (Option.some.inj h).symm⟩
  · cases h
theorem J0_chr_lt {w : Nat} {x1 r : Int32} (h : p_J0_charAt_5068e w x1 = some r) : w < 7 ∧ inb x1 (lenS.getD w 0) = true ∧ r = ((bytS.getD w []).getD x1.toNatClampNeg 0 &&& 255) := by
  unfold p_J0_charAt_5068e at h
  split at h
  · obtain ⟨h1, h2⟩ := gd_e h
    exact ⟨by assumption, h1, (Option.some.inj h2).symm⟩
  · cases h
set_option maxHeartbeats 4000000 in
set_option maxRecDepth 100000 in
theorem c_J0_coder (l : Launch) (G : Gt) (sk sv : Nat → Nat) (w : Nat) (hw : w < 7) (sz : Nat) : Met l yJ0_coder_7d493 wsJ0_coder_7d493 ({ frames := 1, cells := 0, slots := 0, locals := 12 }) (Pc1 G sk sv sz [.ref (sk w)] ([] : va_W)) (Qi0 G (va_A ([] : va_W) sz) 0 ([] : va_W)) 0 0 (va_A ([] : va_W) sz) := by
  refine metP1 (Qf := fun A => Qi0 G A 0 ([] : va_W)) cJ0_coder_7d493 1 (some .byte) (by decide) rfl (Nat.le_of_ble_eq_true rfl) ?_
  intro p e s m below meth c A ls hC hr hlocks hin hE hZ hA hsz hP hD hS hl
  obtain ⟨hx, hb, hml, hown, hts⟩ := id hC
  have hl : lv_has ls 1 [(0, .ref (sk w))] := hl
  refine va_gets hx hb hZ.2.1 hS hown (hts (.fieldLink RJ0 38 "java/lang/String" "COMPACT_STRINGS" "Z") (by decide +kernel)) (fun _ h => h) dJ0_coder_7d493_0 ?_
  refine lv_if_eq (tgt := 13) hx hb dJ0_coder_7d493_3 (by decide) (fun hc => absurd hc (by decide)) (fun _ => ?_)
  refine lv_aload_n hx hb dJ0_coder_7d493_6 rfl (lv_at hl 0 rfl) ?_
  refine vk_getf hx hb (hZ.1.1 w hw).2.1 hS hown (hts (.fieldLink RJ0 15 "java/lang/String" "coder" "B") (by decide +kernel)) (fun _ h => h) dJ0_coder_7d493_7 ?_
  refine lv_goto (tgt := 14) hx hb dJ0_coder_7d493_10 (by decide) ?_
  exact W.zret hx hb hr rfl (fun t ht hW => ⟨⟨0, (), rfl, rfl, by rw [ht]; exact hP, hD⟩, hS.F ht⟩) hS.2.2 dJ0_coder_7d493_14 hlocks
set_option maxHeartbeats 4000000 in
set_option maxRecDepth 100000 in
theorem c_J0_isLatin1 (l : Launch) (G : Gt) (sk sv : Nat → Nat) (w : Nat) (hw : w < 7) (sz : Nat) : Met l yJ0_isLatin1_aae02 wsJ0_isLatin1_aae02 ({ frames := 1, cells := 0, slots := 0, locals := 12 }) (Pc1 G sk sv sz [.ref (sk w)] ([] : va_W)) (Qi0 G (va_A ([] : va_W) sz) 1 ([] : va_W)) 0 0 (va_A ([] : va_W) sz) := by
  refine metP1 (Qf := fun A => Qi0 G A 1 ([] : va_W)) cJ0_isLatin1_aae02 1 (some .boolean) (by decide) rfl (Nat.le_of_ble_eq_true rfl) ?_
  intro p e s m below meth c A ls hC hr hlocks hin hE hZ hA hsz hP hD hS hl
  obtain ⟨hx, hb, hml, hown, hts⟩ := id hC
  have hl : lv_has ls 1 [(0, .ref (sk w))] := hl
  refine va_gets hx hb hZ.2.1 hS hown (hts (.fieldLink RJ0 38 "java/lang/String" "COMPACT_STRINGS" "Z") (by decide +kernel)) (fun _ h => h) dJ0_isLatin1_aae02_0 ?_
  refine lv_if_eq (tgt := 17) hx hb dJ0_isLatin1_aae02_3 (by decide) (fun hc => absurd hc (by decide)) (fun _ => ?_)
  refine lv_aload_n hx hb dJ0_isLatin1_aae02_6 rfl (lv_at hl 0 rfl) ?_
  refine vk_getf hx hb (hZ.1.1 w hw).2.1 hS hown (hts (.fieldLink RJ0 15 "java/lang/String" "coder" "B") (by decide +kernel)) (fun _ h => h) dJ0_isLatin1_aae02_7 ?_
  refine lv_if_ne (tgt := 17) hx hb dJ0_isLatin1_aae02_10 (by decide) (fun hc => absurd rfl hc) (fun _ => ?_)
  refine lv_iconst (v := 1) hx hb dJ0_isLatin1_aae02_13 (by decide) ?_
  refine lv_goto (tgt := 18) hx hb dJ0_isLatin1_aae02_14 (by decide) ?_
  exact W.zret hx hb hr rfl (fun t ht hW => ⟨⟨1, (), rfl, rfl, by rw [ht]; exact hP, hD⟩, hS.F ht⟩) hS.2.2 dJ0_isLatin1_aae02_18 hlocks
set_option maxHeartbeats 4000000 in
set_option maxRecDepth 100000 in
theorem c_J0_length_8abf5 (l : Launch) (G : Gt) (sk sv : Nat → Nat) (w : Nat) (r : Int32) (hf : p_J0_length_8abf5 w = some r) (sz : Nat) : Met l yJ0_length_8abf5 wsJ0_length_8abf5 ({ frames := 2, cells := 0, slots := 0, locals := 32 }) (Pc1 G sk sv sz [.ref (sk w)] ([] : va_W)) (Qi0 G (va_A ([] : va_W) sz) r ([] : va_W)) 0 0 (va_A ([] : va_W) sz) := by
  obtain ⟨hw, rfl⟩ := J0_len_lt hf
  refine metP1 (Qf := fun A => Qi0 G A (nI (lenS.getD w 0)) ([] : va_W)) cJ0_length_8abf5 1 (some .int) (by decide) rfl (Nat.le_of_ble_eq_true rfl) ?_
  intro p e s m below meth c A ls hC hr hlocks hin hE hZ hA hsz hP hD hS hl
  generalize hargs : ([.ref (sk w)] : List Value).toArray = args at hC ⊢
  obtain ⟨hx, hb, hml, hown, hts⟩ := id hC
  have hl : lv_has ls 1 [(0, .ref (sk w))] := hl
  refine lv_aload_n hx hb dJ0_length_8abf5_0 rfl (lv_at hl 0 rfl) ?_
  refine vk_getf hx hb (hZ.1.1 w hw).2.2.1 hS hown (hts (.fieldLink RJ0 9 "java/lang/String" "value" "[B") (by decide +kernel)) (fun _ h => h) dJ0_length_8abf5_1 ?_
  refine va_tlen (v := nI (lenS.getD w 0)) hx hb (hZ.1.1 w hw).2.2.2 hS rfl dJ0_length_8abf5_4 ?_
  refine lv_aload_n hx hb dJ0_length_8abf5_5 rfl (lv_at hl 0 rfl) ?_
  refine cl_i_same (Wd := ([] : va_W)) (W' := ([] : va_W)) (va_runV (As := []) (rest := [.int (nI (lenS.getD w 0))]) hC (c_J0_coder l G sk sv w hw _) (cwV 0 hts gJ0_length_8abf5_J0_coder_7d493 rfl rfl rfl (by decide +kernel) ⟨Nat.le_of_ble_eq_true rfl, Nat.le_of_ble_eq_true rfl⟩) ⟨Pc1_blind, vk_recv hZ.1 hw hS, fun U hU hW => Pc1_at hE hZ hS (fr_all hD hS hA) hP hD hU hW⟩ rfl rfl hl.1 rfl (lv_room (Nat.le_of_ble_eq_true rfl)) dJ0_length_8abf5_6 ⟨Nat.zero_le _, Nat.zero_le _⟩) hS hA hD (fun H locs hP hD hS => ?_)
  refine lv_ishr hx hb dJ0_length_8abf5_9 ?_
  rw [sb_shr0]
  exact W.iret hx hb hr (fun t ht hW => ⟨⟨_, (), rfl, rfl, by rw [ht]; exact hP, hD⟩, hS.F ht⟩) hS.2.2 dJ0_length_8abf5_10 hlocks
set_option maxHeartbeats 4000000 in
set_option maxRecDepth 100000 in
theorem c_J3_checkIndex (l : Launch) (G : Gt) (sk sv : Nat → Nat) (i n : Int32) (v : Value) (hv : v = .null ∨ ∃ t, v = .ref t) (h0 : ¬ i < 0) (h1 : i < n) (sz : Nat) : Met l yJ3_checkIndex_8e157 wsJ3_checkIndex_8e157 ({ frames := 1, cells := 0, slots := 0, locals := 12 }) (Pc1 G sk sv sz [.int i, .int n, v] ([] : va_W)) (Qi0 G (va_A ([] : va_W) sz) i ([] : va_W)) 0 0 (va_A ([] : va_W) sz) := by
  refine metP1 (Qf := fun A => Qi0 G A i ([] : va_W)) cJ3_checkIndex_8e157 3 (some .int) (by decide) rfl (by rcases hv with rfl | ⟨t, rfl⟩ <;> exact Nat.le_of_ble_eq_true rfl) ?_
  intro p e s m below meth c A ls hC hr hlocks hin hE hZ hA hsz hP hD hS hl
  generalize hargs : ([.int i, .int n, v] : List Value).toArray = args at hC ⊢
  obtain ⟨hx, hb, hml, hown, hts⟩ := id hC
  have hl : lv_has ls 3 [(0, .int i), (1, .int n)] := by
    rcases hv with rfl | ⟨t, rfl⟩ <;> exact lv_sub hl [0, 1] rfl
  refine lv_iload_n hx hb dJ3_checkIndex_8e157_0 rfl (lv_at hl 0 rfl) ?_
  refine lv_if_lt (tgt := 9) hx hb dJ3_checkIndex_8e157_1 (by decide) (fun hc => absurd hc h0) (fun _ => ?_)
  refine lv_iload_n hx hb dJ3_checkIndex_8e157_4 rfl (lv_at hl 0 rfl) ?_
  refine lv_iload_n hx hb dJ3_checkIndex_8e157_5 rfl (lv_at hl 1 rfl) ?_
  refine lv_icmp_lt (tgt := 16) hx hb dJ3_checkIndex_8e157_6 (by decide) (fun _ => ?_) (fun hc => absurd h1 hc)
  refine lv_iload_n hx hb dJ3_checkIndex_8e157_16 rfl (lv_at hl 0 rfl) ?_
  exact W.iret hx hb hr (fun t ht hW => ⟨⟨_, (), rfl, rfl, by rw [ht]; exact hP, hD⟩, hS.F ht⟩) hS.2.2 dJ3_checkIndex_8e157_17 hlocks
theorem va_Zq_v {C n d : String} {A : Nat → Prop} {U : State} {H : Heap} (h : va_Zq C n d A U H) : ∃ v : Value, (v = .null ∨ ∃ t, v = .ref t) ∧ va_Z C n d v A U H := by
  rcases h with h | ⟨t, h⟩
  · exact ⟨.null, Or.inl rfl, h⟩
  · exact ⟨.ref t, Or.inr ⟨t, rfl⟩, h⟩
set_option maxHeartbeats 4000000 in
set_option maxRecDepth 100000 in
theorem c_J0_checkIndex (l : Launch) (G : Gt) (sk sv : Nat → Nat) (i n : Int32) (h0 : ¬ i < 0) (h1 : i < n) (sz : Nat) : Met l yJ0_checkIndex_df160 wsJ0_checkIndex_df160 ({ frames := 2, cells := 0, slots := 0, locals := 34 }) (Pc1 G sk sv sz [.int i, .int n] ([] : va_W)) (Qv0 G (va_A ([] : va_W) sz) ([] : va_W)) 0 0 (va_A ([] : va_W) sz) := by
  refine metP1 (Qf := fun A => Qv0 G A ([] : va_W)) cJ0_checkIndex_df160 2 none (by decide) rfl (Nat.le_of_ble_eq_true rfl) ?_
  intro p e s m below meth c A ls hC hr hlocks hin hE hZ hA hsz hP hD hS hl
  generalize hargs : ([.int i, .int n] : List Value).toArray = args at hC ⊢
  obtain ⟨hx, hb, hml, hown, hts⟩ := id hC
  have hl : lv_has ls 2 [(0, .int i), (1, .int n)] := hl
  obtain ⟨v, hv, hZv⟩ := va_Zq_v hZ.2.2.1
  refine lv_iload_n hx hb dJ0_checkIndex_df160_0 rfl (lv_at hl 0 rfl) ?_
  refine lv_iload_n hx hb dJ0_checkIndex_df160_1 rfl (lv_at hl 1 rfl) ?_
  refine va_gets hx hb hZv hS hown (hts (.fieldLink RJ0 1053 "jdk/internal/util/Preconditions" "SIOOBE_FORMATTER" "Ljava/util/function/BiFunction;") (by decide +kernel)) (fun _ h => h) dJ0_checkIndex_df160_2 ?_
  refine cl_i_same (Wd := ([] : va_W)) (W' := ([] : va_W)) (va_runS (As := [.int i, .int n, v]) (rest := []) hC (c_J3_checkIndex l G sk sv i n v hv h0 h1 _) (va_cwS 3 hts gJ0_checkIndex_df160_J3_checkIndex_8e157 rfl rfl rfl (by decide +kernel) ⟨Nat.le_of_ble_eq_true rfl, Nat.le_of_ble_eq_true rfl⟩) ⟨Pc1_blind, fun U hU hW => Pc1_at hE hZ hS (fr_all hD hS hA) hP hD hU hW⟩ rfl rfl hl.1 rfl (lv_room (Nat.le_of_ble_eq_true rfl)) dJ0_checkIndex_df160_5 ⟨Nat.zero_le _, Nat.zero_le _⟩) hS hA hD (fun H locs hP hD hS => ?_)
  refine lv_pop hx hb dJ0_checkIndex_df160_8 rfl ?_
  exact W.vret hx hb hr (fun t ht hW => ⟨⟨(), rfl, trivial, by rw [ht]; exact hP, hD⟩, hS.F ht⟩) hS.2.2 dJ0_checkIndex_df160_9 hlocks
theorem inb_lt {i : Int32} {n : Nat} (hn : n < 2 ^ 31) (h : inb i n = true) : ¬ i < 0 ∧ i < nI n := by
  obtain ⟨j, hj, rfl⟩ := vp_in_of (inb_e h) hn
  exact ⟨nI_pos (by omega), nI_lt hj hn⟩
theorem lenS_lt : ∀ w, w < 7 → lenS.getD w 0 < 2 ^ 31 := by decide
set_option maxHeartbeats 4000000 in
set_option maxRecDepth 100000 in
theorem c_J1_charAt (l : Launch) (G : Gt) (sk sv : Nat → Nat) (w : Nat) (hw : w < 7) (i : Int32) (hi : inb i (lenS.getD w 0) = true) (sz : Nat) : Met l yJ1_charAt_3b067 wsJ1_charAt_3b067 ({ frames := 3, cells := 0, slots := 0, locals := 56 }) (Pc1 G sk sv sz [.ref (sv w), .int i] ([] : va_W)) (Qi0 G (va_A ([] : va_W) sz) ((bytS.getD w []).getD i.toNatClampNeg 0 &&& 255) ([] : va_W)) 0 0 (va_A ([] : va_W) sz) := by
  obtain ⟨h0, h1⟩ := inb_lt (lenS_lt w hw) hi
  refine metP1 (Qf := fun A => Qi0 G A ((bytS.getD w []).getD i.toNatClampNeg 0 &&& 255) ([] : va_W)) cJ1_charAt_3b067 2 (some .char) (by decide) rfl (Nat.le_of_ble_eq_true rfl) ?_
  intro p e s m below meth c A ls hC hr hlocks hin hE hZ hA hsz hP hD hS hl
  generalize hargs : ([.ref (sv w), .int i] : List Value).toArray = args at hC ⊢
  obtain ⟨hx, hb, hml, hown, hts⟩ := id hC
  have hl : lv_has ls 2 [(0, .ref (sv w)), (1, .int i)] := hl
  refine lv_iload_n hx hb dJ1_charAt_3b067_0 rfl (lv_at hl 1 rfl) ?_
  refine lv_aload_n hx hb dJ1_charAt_3b067_1 rfl (lv_at hl 0 rfl) ?_
  refine va_tlen (v := nI (lenS.getD w 0)) hx hb (hZ.1.1 w hw).2.2.2 hS rfl dJ1_charAt_3b067_2 ?_
  refine cl_v_same (Wd := ([] : va_W)) (W' := ([] : va_W)) (va_runS (As := [.int i, .int (nI (lenS.getD w 0))]) (rest := []) hC (c_J0_checkIndex l G sk sv i (nI (lenS.getD w 0)) h0 h1 _) (va_cwS 2 hts gJ1_charAt_3b067_J0_checkIndex_df160 rfl rfl rfl (by decide +kernel) ⟨Nat.le_of_ble_eq_true rfl, Nat.le_of_ble_eq_true rfl⟩) ⟨Pc1_blind, fun U hU hW => Pc1_at hE hZ hS (fr_all hD hS hA) hP hD hU hW⟩ rfl rfl hl.1 rfl (lv_room (Nat.le_of_ble_eq_true rfl)) dJ1_charAt_3b067_3 ⟨Nat.zero_le _, Nat.zero_le _⟩) hS hA hD (fun H locs hP hD hS => ?_)
  refine lv_aload_n hx hb dJ1_charAt_3b067_6 rfl (lv_at hl 0 rfl) ?_
  refine lv_iload_n hx hb dJ1_charAt_3b067_7 rfl (lv_at hl 1 rfl) ?_
  refine va_tb hx hb (hZ.1.1 w hw).2.2.2 hS (inb_e hi) rfl dJ1_charAt_3b067_8 ?_
  refine lv_sipush (v := 255) hx hb dJ1_charAt_3b067_9 (by decide) ?_
  refine lv_iand hx hb dJ1_charAt_3b067_12 ?_
  refine lv_i2c hx hb dJ1_charAt_3b067_13 (sc_c2 _) ?_
  exact W.zret hx hb hr (sc_nar _) (fun t ht hW => ⟨⟨_, (), rfl, rfl, by rw [ht]; exact hP, hD⟩, hS.F ht⟩) hS.2.2 dJ1_charAt_3b067_14 hlocks
set_option maxHeartbeats 4000000 in
set_option maxRecDepth 100000 in
theorem c_J0_charAt_5068e (l : Launch) (G : Gt) (sk sv : Nat → Nat) (w : Nat) (x1 r : Int32) (hf : p_J0_charAt_5068e w x1 = some r) (sz : Nat) : Met l yJ0_charAt_5068e wsJ0_charAt_5068e ({ frames := 4, cells := 0, slots := 0, locals := 78 }) (Pc1 G sk sv sz [.ref (sk w), .int x1] ([] : va_W)) (Qi0 G (va_A ([] : va_W) sz) r ([] : va_W)) 0 0 (va_A ([] : va_W) sz) := by
  obtain ⟨hw, hi, hr0⟩ := J0_chr_lt hf
  subst hr0
  refine metP1 (Qf := fun A => Qi0 G A ((bytS.getD w []).getD x1.toNatClampNeg 0 &&& 255) ([] : va_W)) cJ0_charAt_5068e 2 (some .char) (by decide) rfl (Nat.le_of_ble_eq_true rfl) ?_
  intro p e s m below meth c A ls hC hr hlocks hin hE hZ hA hsz hP hD hS hl
  generalize hargs : ([.ref (sk w), .int x1] : List Value).toArray = args at hC ⊢
  obtain ⟨hx, hb, hml, hown, hts⟩ := id hC
  have hl : lv_has ls 2 [(0, .ref (sk w)), (1, .int x1)] := hl
  refine lv_aload_n hx hb dJ0_charAt_5068e_0 rfl (lv_at hl 0 rfl) ?_
  refine cl_i_same (Wd := ([] : va_W)) (W' := ([] : va_W)) (va_runV (As := []) (rest := []) hC (c_J0_isLatin1 l G sk sv w hw _) (cwV 0 hts gJ0_charAt_5068e_J0_isLatin1_aae02 rfl rfl rfl (by decide +kernel) ⟨Nat.le_of_ble_eq_true rfl, Nat.le_of_ble_eq_true rfl⟩) ⟨Pc1_blind, vk_recv hZ.1 hw hS, fun U hU hW => Pc1_at hE hZ hS (fr_all hD hS hA) hP hD hU hW⟩ rfl rfl hl.1 rfl (lv_room (Nat.le_of_ble_eq_true rfl)) dJ0_charAt_5068e_1 ⟨Nat.zero_le _, Nat.zero_le _⟩) hS hA hD (fun H locs hP hD hS => ?_)
  refine lv_if_eq (tgt := 16) hx hb dJ0_charAt_5068e_4 (by decide) (fun hc => absurd hc (by decide)) (fun _ => ?_)
  refine lv_aload_n hx hb dJ0_charAt_5068e_7 rfl (lv_at hl 0 rfl) ?_
  refine vk_getf hx hb (hZ.1.1 w hw).2.2.1 hS hown (hts (.fieldLink RJ0 9 "java/lang/String" "value" "[B") (by decide +kernel)) (fun _ h => h) dJ0_charAt_5068e_8 ?_
  refine lv_iload_n hx hb dJ0_charAt_5068e_11 rfl (lv_at hl 1 rfl) ?_
  refine cl_i_same (Wd := ([] : va_W)) (W' := ([] : va_W)) (va_runS (As := [.ref (sv w), .int x1]) (rest := []) hC (c_J1_charAt l G sk sv w hw x1 hi _) (va_cwS 2 hts gJ0_charAt_5068e_J1_charAt_3b067 rfl rfl rfl (by decide +kernel) ⟨Nat.le_of_ble_eq_true rfl, Nat.le_of_ble_eq_true rfl⟩) ⟨Pc1_blind, fun U hU hW => Pc1_at hE hZ hS (fr_all hD hS hA) hP hD hU hW⟩ rfl rfl hl.1 rfl (lv_room (Nat.le_of_ble_eq_true rfl)) dJ0_charAt_5068e_12 ⟨Nat.zero_le _, Nat.zero_le _⟩) hS hA hD (fun H locs hP hD hS => ?_)
  exact W.zret hx hb hr (sc_nar _) (fun t ht hW => ⟨⟨_, (), rfl, rfl, by rw [ht]; exact hP, hD⟩, hS.F ht⟩) hS.2.2 dJ0_charAt_5068e_15 hlocks
