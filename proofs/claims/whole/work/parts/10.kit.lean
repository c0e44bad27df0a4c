def nestF : List (String × Nat × String × String × String × String) := [(RX6, 77, "FeatherShares$Tape", "length", "I", "FeatherShares"), (RX6, 84, "FeatherShares$TextReader", "faultFound", "I", "FeatherShares"), (RX6, 87, "FeatherShares$TextReader", "faultPlace", "I", "FeatherShares"), (RX6, 90, "FeatherShares$TextReader", "draft", "LFeatherShares$Flock;", "FeatherShares"), (RX6, 97, "FeatherShares$Sightings", "size", "I", "FeatherShares"), (RX6, 100, "FeatherShares$TextReader", "lines", "I", "FeatherShares"), (RX6, 103, "FeatherShares$Flock", "geese", "I", "FeatherShares"), (RX6, 106, "FeatherShares$Flock", "week", "I", "FeatherShares"), (RX6, 109, "FeatherShares$Flock", "trades", "I", "FeatherShares"), (RX6, 112, "FeatherShares$Flock", "money", "[I", "FeatherShares"), (RX6, 119, "FeatherShares$Flock", "eggsHad", "[I", "FeatherShares"), (RX6, 129, "FeatherShares$Flock", "kind", "[I", "FeatherShares"), (RX6, 132, "FeatherShares$Flock", "skin", "[I", "FeatherShares"), (RX6, 135, "FeatherShares$Flock", "price", "[I", "FeatherShares"), (RX6, 155, "FeatherShares$Flock", "planBuyer", "[I", "FeatherShares"), (RX6, 158, "FeatherShares$Flock", "planSeller", "[I", "FeatherShares"), (RX6, 161, "FeatherShares$Flock", "planGoose", "[I", "FeatherShares"), (RX6, 164, "FeatherShares$Flock", "planAmount", "[I", "FeatherShares"), (RX6, 171, "FeatherShares$Flock", "feathers", "[I", "FeatherShares"), (RX6, 220, "FeatherShares$RowSearch", "bestGeese", "I", "FeatherShares"), (RX6, 223, "FeatherShares$RowSearch", "bestMoney", "I", "FeatherShares"), (RX6, 226, "FeatherShares$RowSearch", "bestLength", "I", "FeatherShares"), (RX6, 229, "FeatherShares$RowSearch", "bestFirst", "I", "FeatherShares"), (RX6, 232, "FeatherShares$RowSearch", "bestSecond", "I", "FeatherShares"), (RX6, 310, "FeatherShares$Sheet", "isNothing", "Z", "FeatherShares"), (RX6, 314, "FeatherShares$Sheet", "size", "I", "FeatherShares"), (RX1, 72, "FeatherShares$Flock", "geese", "I", "FeatherShares"), (RX1, 92, "FeatherShares$Flock", "money", "[I", "FeatherShares"), (RX5, 49, "FeatherShares$Flock", "geese", "I", "FeatherShares"), (RX5, 52, "FeatherShares$Tape", "length", "I", "FeatherShares"), (RX5, 62, "FeatherShares$Tape", "token", "I", "FeatherShares"), (RX5, 65, "FeatherShares$Tape", "tokenStart", "I", "FeatherShares"), (RX5, 115, "FeatherShares$Flock", "feathers", "[I", "FeatherShares"), (RX5, 119, "FeatherShares$Flock", "money", "[I", "FeatherShares"), (RX5, 121, "FeatherShares$Flock", "trades", "I", "FeatherShares"), (RX5, 131, "FeatherShares$Tape", "value", "I", "FeatherShares")]
def nestM : List (String × Nat × MethodName × String) := [(RX6, 11, yX0_init, "FeatherShares"), (RX6, 29, yX4_init, "FeatherShares"), (RX6, 36, yX5_init, "FeatherShares"), (RX6, 43, yX3_init, "FeatherShares"), (RX6, 54, yX1_init, "FeatherShares"), (RX6, 68, yX2_init, "FeatherShares"), (RX6, 73, yX4_append, "FeatherShares"), (RX6, 80, yX5_readAll, "FeatherShares"), (RX6, 93, yX0_copyFrom, "FeatherShares"), (RX6, 122, yX0_bareGeese, "FeatherShares"), (RX6, 126, yX0_hasGoose, "FeatherShares"), (RX6, 138, yX0_feathersOf, "FeatherShares"), (RX6, 142, yX0_eggOwner, "FeatherShares"), (RX6, 148, yX0_ofOwner, "FeatherShares"), (RX6, 152, yX0_held, "FeatherShares"), (RX6, 174, yX0_isTrade, "FeatherShares"), (RX6, 178, yX0_addToPlan, "FeatherShares"), (RX6, 181, yX0_canTrade, "FeatherShares"), (RX6, 184, yX0_exchange, "FeatherShares"), (RX6, 188, yX0_canPluck, "FeatherShares"), (RX6, 191, yX0_moveFeathers, "FeatherShares"), (RX6, 194, yX0_passWeeks, "FeatherShares"), (RX6, 197, yX0_tryPlanned, "FeatherShares"), (RX6, 200, yX0_costOfPlanned, "FeatherShares"), (RX6, 203, yX0_followPlanWithout, "FeatherShares"), (RX6, 207, yX0_passWeek, "FeatherShares"), (RX6, 210, yX0_worth, "FeatherShares"), (RX6, 213, yX0_wouldGetEgg, "FeatherShares"), (RX6, 216, yX1_findBest, "FeatherShares"), (RX6, 238, yX0_setsSwungBy, "FeatherShares"), (RX6, 264, yX3_add, "FeatherShares"), (RX6, 270, yX3_agreeWith, "FeatherShares"), (RX6, 287, yX0_tryDrawn, "FeatherShares"), (RX6, 296, yX2_renew, "FeatherShares"), (RX6, 300, yX2_put, "FeatherShares"), (RX6, 303, yX2_faultOfTrade, "FeatherShares"), (RX6, 306, yX2_tradeOn, "FeatherShares"), (RX6, 315, yX0_feathersOfPlan, "FeatherShares"), (RX0, 64, yX6_isWithin, "FeatherShares"), (RX0, 85, yX6_isOwner, "FeatherShares"), (RX1, 11, yX0_init, "FeatherShares"), (RX1, 44, yX0_copyFrom, "FeatherShares"), (RX1, 48, yX0_geeseWithEggOf, "FeatherShares"), (RX1, 75, yX0_canTrade, "FeatherShares"), (RX1, 88, yX0_exchange, "FeatherShares"), (RX2, 32, yX6_isWithin, "FeatherShares"), (RX2, 36, yX0_tryTrade, "FeatherShares"), (RX3, 32, yX0_passWeek, "FeatherShares"), (RX3, 38, yX0_held, "FeatherShares"), (RX5, 11, yX0_init, "FeatherShares"), (RX5, 37, yX0_clear, "FeatherShares"), (RX5, 40, yX4_rewind, "FeatherShares"), (RX5, 59, yX4_nextToken, "FeatherShares"), (RX5, 88, yX4_spells, "FeatherShares"), (RX5, 111, yX0_addGoose, "FeatherShares"), (RX5, 124, yX0_addToPlan, "FeatherShares"), (RX5, 134, yX6_isWithin, "FeatherShares")]
/-! ===== my layer: memories of objects, programs as functions, loops, calls ===== -/
abbrev Mem : Type := Nat → Nat → Int32
/-- a row of a memory is replaced (by a recursor: the kernel then sees at once which row it is; the memory is the last argument, for the kernel compares arguments from the last on) -/
noncomputable def mrow (i : Nat) (g : Nat → Int32) (f : Mem) : Mem := fun a => @Bool.rec (fun _ => Nat → Int32) (f a) g (Nat.beq a i)
/-- a place of a memory is set -/
noncomputable def mset (i j : Nat) (v : Int32) (f : Mem) : Mem := fun a => @Bool.rec (fun _ => Nat → Int32) (f a) (fun b => @Bool.rec (fun _ => Int32) (f a b) v (Nat.beq b j)) (Nat.beq a i)
theorem mrow_at (i : Nat) (g : Nat → Int32) (f : Mem) (a : Nat) : mrow i g f a = if a = i then g else f a := by
  unfold mrow
  by_cases h : a = i
  · subst h
    rw [if_pos rfl, Nat.beq_refl]
  · rw [if_neg h, Bool.eq_false_iff.mpr (fun z => h (Nat.eq_of_beq_eq_true z))]
theorem mset_at (i j : Nat) (v : Int32) (f : Mem) (a : Nat) : mset i j v f a = if a = i then upd (f i) j v else f a := by
  unfold mset
  by_cases h : a = i
  · subst h
    rw [if_pos rfl, Nat.beq_refl]
    funext b
    show @Bool.rec (fun _ => Int32) (f a b) v (Nat.beq b j) = if b = j then v else f a b
    by_cases h2 : b = j
    · subst h2
      rw [if_pos rfl, Nat.beq_refl]
    · rw [if_neg h2, Bool.eq_false_iff.mpr (fun z => h2 (Nat.eq_of_beq_eq_true z))]
  · rw [if_neg h, Bool.eq_false_iff.mpr (fun z => h (Nat.eq_of_beq_eq_true z))]
def lpn {σ ρ : Type} (b : σ → Option (σ ⊕ ρ)) : Nat → σ → Option ρ
  | 0, _ => none
  | n + 1, s => (b s).bind (Sum.elim (lpn b n) some)
theorem lpn_mono {σ ρ : Type} {b : σ → Option (σ ⊕ ρ)} : ∀ (n k : Nat) (s : σ) (x : ρ), n ≤ k → lpn b n s = some x → lpn b k s = some x
  | 0, _, _, _, _, h => by cases h
  | n + 1, 0, _, _, hk, _ => by omega
  | n + 1, k + 1, s, x, hk, h => by
    simp only [lpn] at h ⊢
    cases hb : b s with
    | none => rw [hb] at h; cases h
    | some r =>
      rw [hb] at h
      cases r with
      | inl s' => exact lpn_mono n k s' x (by omega) h
      | inr y => exact h
/-- a loop: where its body comes to an end, that end; else nothing -/
noncomputable def lp {σ ρ : Type} (b : σ → Option (σ ⊕ ρ)) (s : σ) : Option ρ := @dite _ (∃ x n, lpn b n s = some x) (Classical.propDecidable _) (fun h => some (Classical.choose h)) (fun _ => none)
theorem lp_iff {σ ρ : Type} {b : σ → Option (σ ⊕ ρ)} {s : σ} {x : ρ} : lp b s = some x ↔ ∃ n, lpn b n s = some x := by
  unfold lp
  constructor
  · intro h
    split at h
    · rename_i q
      have e := Option.some.inj h
      rw [← e]
      exact Classical.choose_spec q
    · cases h
  · rintro ⟨n, h⟩
    have q : ∃ x n, lpn b n s = some x := ⟨x, n, h⟩
    rw [dif_pos q]
    obtain ⟨k, hk⟩ := Classical.choose_spec q
    have h1 := lpn_mono n (n + k) s x (by omega) h
    have h2 := lpn_mono k (n + k) s _ (by omega) hk
    rw [h1] at h2
    exact h2.symm
theorem lp_eq {σ ρ : Type} (b : σ → Option (σ ⊕ ρ)) (s : σ) : lp b s = (b s).bind (Sum.elim (lp b) some) := by
  cases h : (b s).bind (Sum.elim (lp b) some) with
  | some x =>
    refine lp_iff.mpr ?_
    cases hb : b s with
    | none => rw [hb] at h; cases h
    | some r =>
      rw [hb] at h
      cases r with
      | inl s' =>
        obtain ⟨n, hn⟩ := lp_iff.mp (show lp b s' = some x from h)
        exact ⟨n + 1, by simp only [lpn]; rw [hb]; exact hn⟩
      | inr y => exact ⟨1, by simp only [lpn]; rw [hb]; exact h⟩
  | none =>
    cases h2 : lp b s with
    | none => rfl
    | some x =>
      obtain ⟨n, hn⟩ := lp_iff.mp h2
      cases n with
      | zero => cases hn
      | succ n =>
        simp only [lpn] at hn
        cases hb : b s with
        | none => rw [hb] at hn; cases hn
        | some r =>
          rw [hb] at hn h
          cases r with
          | inl s' =>
            have h3 : lp b s' = some x := lp_iff.mpr ⟨n, hn⟩
            rw [show (some (Sum.inl s' : σ ⊕ ρ)).bind (Sum.elim (lp b) some) = lp b s' from rfl, h3] at h
            cases h
          | inr y => cases h
/-- a loop of the machine: from each state of it by one turn -/
theorem lp_W {σ ρ : Type} (b : σ → Option (σ ⊕ ρ)) (WH : σ → Prop) (K : ρ → Prop) (hs : ∀ s res, b s = some res → Sum.elim WH K res → WH s) {s : σ} {x : ρ} (h : lp b s = some x) (hK : K x) : WH s := by
  obtain ⟨n, hn⟩ := lp_iff.mp h
  clear h
  induction n generalizing s with
  | zero => cases hn
  | succ n ih =>
    simp only [lpn] at hn
    cases hb : b s with
    | none => rw [hb] at hn; cases hn
    | some r =>
      rw [hb] at hn
      refine hs s r hb ?_
      cases r with
      | inl s' => exact ih hn
      | inr y =>
        cases (Option.some.inj hn)
        exact hK
def gd {α : Type} (c : Bool) (k : Option α) : Option α := if c = true then k else none
theorem gd_e {α : Type} {c : Bool} {k : Option α} {x : α} (h : gd c k = some x) : c = true ∧ k = some x := by
  unfold gd at h
  split at h
  · exact ⟨by assumption, h⟩
  · cases h
theorem gd_t {α : Type} {c : Bool} {k : Option α} (h : c = true) : gd c k = k := by unfold gd; rw [if_pos h]
theorem bd_e {α β : Type} {o : Option α} {k : α → Option β} {x : β} (h : o.bind k = some x) : ∃ a, o = some a ∧ k a = some x := by
  cases o with
  | none => cases h
  | some a => exact ⟨a, rfl, h⟩
/-- a value that gets a name -/
def bnd {α β : Type} (a : α) (k : α → Option β) : Option β := k a
theorem bnd_e {α β : Type} {a : α} {k : α → Option β} {x : β} (h : bnd a k = some x) : ∃ g, g = a ∧ k g = some x := ⟨a, rfl, h⟩
theorem if_t {α : Type} {c : Prop} [Decidable c] {a b : α} {x : α} (h : (if c then a else b) = x) (hc : c) : a = x := by rw [if_pos hc] at h; exact h
theorem if_f {α : Type} {c : Prop} [Decidable c] {a b : α} {x : α} (h : (if c then a else b) = x) (hc : ¬ c) : b = x := by rw [if_neg hc] at h; exact h
theorem K_of {α : Type} {K : α → Prop} {x res : α} (h : some x = some res) (hK : K res) : K x := by cases h; exact hK
theorem K0_of {α : Type} {x res y : α} (h : some x = some res) (hK : res = y) : x = y := (Option.some.inj h).trans hK
/-- is a number a place of a row? -/
def inb (i : Int32) (n : Nat) : Bool := decide (¬ (i < 0 ∨ n ≤ i.toNatClampNeg))
theorem inb_e {i : Int32} {n : Nat} (h : inb i n = true) : vp_in i n := of_decide_eq_true (p := ¬ (i < 0 ∨ n ≤ i.toNatClampNeg)) h
theorem inb_of {i : Int32} {n : Nat} (h : vp_in i n) : inb i n = true := decide_eq_true (p := ¬ (i < 0 ∨ n ≤ i.toNatClampNeg)) h
def nz (x : Int32) : Bool := decide (¬ x = 0)
theorem nz_e {x : Int32} (h : nz x = true) : ¬ x = 0 := of_decide_eq_true h
def zb (x : Int32) : Bool := decide (x = nI 0) || decide (x = nI 1)
theorem zb_e {x : Int32} (h : zb x = true) : narrow .boolean (.int x) = .int x := by
  unfold zb at h
  rcases Bool.or_eq_true_iff.mp h with h | h
  · rw [of_decide_eq_true h]; rfl
  · rw [of_decide_eq_true h]; rfl
def nzL (x : Int64) : Bool := decide (¬ x = 0)
theorem nzL_e {x : Int64} (h : nzL x = true) : ¬ x = 0 := of_decide_eq_true h
theorem ii_x (n : Nat) (x : Int32) : x + Int32.ofInt n = x + nI n := by
  have : Int32.ofInt (n : Int) = nI n := by
    unfold nI
    rfl
  rw [this]
theorem ne_int {x : Int32} {k : Nat} (h : ¬ x = nI k) (hk : k < 2 ^ 31) : ¬ x.toInt = (k : Int) := fun e => h (Int32.toInt_inj.mp (e.trans (nI_toInt hk).symm))
/-- the tables of a world: classes' numbers and slots; array classes -/
abbrev Gt : Type := va_G × (Nat → ClassId)
abbrev tyL (G : Gt) : List (ClassId × FieldType) := [(G.2 0, .int), (G.2 1, .boolean), (G.2 2, .object RX0), (G.2 3, .object RX2)]
def NN (U : State) : Prop := (∀ t ∈ nestF, va_Nw (.fieldLinkNest t.1 t.2.1 t.2.2.1 t.2.2.2.1 t.2.2.2.2.1 t.2.2.2.2.2) U) ∧ (∀ t ∈ nestM, va_Nw (.methodLinkNest t.1 t.2.1 t.2.2.1 t.2.2.2) U)
theorem NN.warm {s U : State} (hW : s.WarmedH U.vm) (h : NN s) : NN U := ⟨fun t ht => (h.1 t ht).warmF hW, fun t ht => (h.2 t ht).warmM hW⟩
theorem NN.same {u U : State} (e : u.vm = U.vm) (h : NN u) : NN U := ⟨fun t ht => (h.1 t ht).same rfl e, fun t ht => (h.2 t ht).same rfl e⟩
def EV (G : Gt) (U : State) : Prop := va_K G.1 vwCl (tyL G) U ∧ NN U
theorem EV.warm {G : Gt} {s U : State} (hW : s.WarmedH U.vm) (h : EV G s) : EV G U := ⟨h.1.moved hW.alike, h.2.warm hW⟩
theorem EV.same {G : Gt} {u U : State} (e : u.vm = U.vm) (h : EV G u) : EV G U := ⟨va_K.moved (by rw [e]; exact Vm.Alike.refl _) h.1, h.2.same e⟩
/-- a method's start, over a world -/
def Pc0 (G : Gt) (sz : Nat) (av : List Value) (Wd : va_W) : Array Value → State → Prop := va_Pc av (fun U => U.heap.size = sz ∧ va_P G.1 vwCl Wd U.heap ∧ EV G U ∧ va_D (fun _ => True) Wd)
theorem Pc0_blind {G : Gt} {sz : Nat} {av : List Value} {Wd : va_W} : FrameBlind (Pc0 G sz av Wd) := fun a U g mk q => by
  obtain ⟨q0, q1, qP, qE, qD⟩ := q
  exact ⟨q0, q1, qP, EV.same (u := U) (U := U.calling g mk a) rfl qE, qD⟩
theorem Pc0_at {G : Gt} {s U : State} {H : Heap} {av : List Value} {Wd : va_W} {A : Nat → Prop} (hE : EV G s) (hP : va_P G.1 vwCl Wd H) (hD : va_D A Wd) (hU : U.heap = H) (hW : s.WarmedH U.vm) : Pc0 G H.size av Wd av.toArray U :=
  ⟨rfl, by rw [hU], by rw [hU]; exact hP, hE.warm hW, hD.weaken (fun _ _ _ _ => trivial)⟩
/-- and its end -/
def Bi0 (G : Gt) (A : Nat → Prop) (W' : va_W) : Unit → State → Prop := fun _ t => va_P G.1 vwCl W' t.heap ∧ va_D A W'
abbrev Qi0 (G : Gt) (A : Nat → Prop) (r : Int32) (W' : va_W) := va_Qi (fun (r2 : Int32) (_ : Unit) => r2 = r) (Bi0 G A W') A
abbrev Qz0 (G : Gt) (A : Nat → Prop) (r : Int32) (W' : va_W) := va_Qi (fun (r2 : Int32) (_ : Unit) => r2 = r ∧ narrow .boolean (.int r2) = .int r2) (Bi0 G A W') A
abbrev Ql0 (G : Gt) (A : Nat → Prop) (r : Int64) (W' : va_W) := va_Ql (fun (r2 : Int64) (_ : Unit) => r2 = r) (Bi0 G A W') A
abbrev Qv0 (G : Gt) (A : Nat → Prop) (W' : va_W) := va_Qv (fun (_ : Unit) => True) (Bi0 G A W') A
/-- a contract out of the walk of the body -/
theorem metP {l : Launch} {y : MethodName} {ws ws' : List Cond} {rm : Room} {G : Gt} {sz : Nat} {av : List Value} {Wd : va_W} {Qf : (Nat → Prop) → Array Value → State → Outcome → State → Prop} {mc ms : Nat} (cc : ByteArray) (maxL : Nat) (ret : Option FieldType) (hy : plainName y.cls = true) (hw : ws = Cond.code y cc maxL ret :: ws') (hn : (lg_sl av).length ≤ maxL)
    (body : ∀ p e s m below meth c A ls, CallFix p m c cc maxL s av.toArray ws y.cls → meth.sig.returnType = ret → meth.locks = false → meth.name = y.name → EV G s → (∀ q, s.heap.size ≤ q → A q) → s.heap.size = sz → va_P G.1 vwCl Wd s.heap → va_D A Wd → va_S A s.heap s.heap [] → lv_has ls maxL (lv_args 0 av) →
      W p l e rm s m av.toArray below meth c s.heap [] 0 0 (MQ below (Qf A) av.toArray s mc ms A) (F0 m 0 ls [])) : Met l y ws rm (Pc0 G sz av Wd) (Qf (va_A Wd sz)) mc ms (va_A Wd sz) := by
  refine Met.ofW (cc := cc) (maxL := maxL) (ret := ret) hy hw ?_
  intro p e s m args below meth c s₁ B hml hv
  obtain ⟨rfl, hsz, hP, hE, hD0⟩ := hv
  have hts := atoms_spec (ws := ws) B.pre
  have hown : s.vm.findClass y.cls = some m.cls := findClass_of_methodNamed B.named
  have hlocks := B.notSynchronized
  have hin : meth.name = y.name := (name_of_methodNamed B.named B.method).1
  subst hsz
  have hl := lv_entry av (n := maxL) hn
  rw [lg_entry_eq]
  exact body p e s m below meth c _ _ ⟨B.exec, B.bytes, hml, hown, hts⟩ B.returns hlocks hin hE (fun q h => Or.inr h) rfl hP (hD0.self (sz := s.heap.size)) va_S.rf hl
theorem va_P.subm {D : va_G} {cl : List vw_C} {ws ws' : va_W} {H : Heap} (h : va_P D cl ws H) (is : List Nat) (hs : is.map (fun i => ws[i]?) = ws'.map some) : va_P D cl ws' H := by
  intro k q hk
  have h1 : (is.map (fun i => ws[i]?))[k]? = some (some q) := by rw [hs, List.getElem?_map, hk]; rfl
  rw [List.getElem?_map] at h1
  cases hi : is[k]? with
  | none => rw [hi] at h1; cases h1
  | some i => rw [hi] at h1; exact h i q (Option.some.inj h1)
theorem sub_at {is : List Nat} {ws w : va_W} (hs : is.map (fun i => ws[i]?) = w.map some) : ∀ (k : Nat) (q : Nat × va_E), w[k]? = some q → ∃ i, is[k]? = some i ∧ ws[i]? = some q := by
  intro k q hq
  have h1 : (is.map (fun i => ws[i]?))[k]? = some (some q) := by rw [hs, List.getElem?_map, hq]; rfl
  rw [List.getElem?_map] at h1
  cases hi : is[k]? with
  | none => rw [hi] at h1; cases h1
  | some i => rw [hi] at h1; exact ⟨i, rfl, Option.some.inj h1⟩
theorem sub_to {is : List Nat} {ws w : va_W} (hs : is.map (fun i => ws[i]?) = w.map some) {k i : Nat} {q : Nat × va_E} (hi : is[k]? = some i) (hq : ws[i]? = some q) : w[k]? = some q := by
  have h1 : (w.map some)[k]? = some (ws[i]?) := by rw [← hs, List.getElem?_map, hi]; rfl
  rw [List.getElem?_map, hq] at h1
  cases hw : w[k]? with
  | none => rw [hw] at h1; cases h1
  | some r => rw [hw] at h1; exact congrArg some (Option.some.inj (Option.some.inj h1))
theorem fr_all {A : Nat → Prop} {ws : va_W} {H0 H : Heap} {locs : List Loc} (hD : va_D A ws) (hS : va_S A H0 H locs) (hA : ∀ q, H0.size ≤ q → A q) : ∀ q, va_A ws H.size q → A q := by
  intro q h
  rcases h with ⟨k, e, h⟩ | h
  · exact hD.2 k (q, e) h
  · exact hA q (Nat.le_trans hS.1 h)
/-- behind a call that changes nothing -/
theorem ro_P {G : Gt} {A : Nat → Prop} {Wd Wc : va_W} {H H1 : Heap} (isC : List Nat) (hC : isC.map (fun i => Wd[i]?) = Wc.map some) (hP : va_P G.1 vwCl Wd H) (hD : va_D A Wd) (hk : ∀ q : Nat, q < H.size → ¬ va_A Wc H.size q → H1[q]? = H[q]?) (hP1 : va_P G.1 vwCl Wc H1) : va_P G.1 vwCl Wd H1 := by
  intro k q hq
  by_cases h : ∃ j : Nat, isC[j]? = some k
  · obtain ⟨j, hj⟩ := h
    exact hP1 j q (sub_to hC hj hq)
  · refine (hP k q hq).kept (hk q.1 (hP k q hq).lt (fun hz => ?_))
    rcases hz with ⟨j, e, hz⟩ | hz
    · obtain ⟨i, h1, h2⟩ := sub_at hC j (q.1, e) hz
      have := hD.1 i k (q.1, e) q h2 hq rfl
      subst this
      exact h ⟨j, h1⟩
    · exact absurd (hP k q hq).lt (Nat.not_lt.mpr hz)
/-- behind a call that changes a part -/
theorem up_P {G : Gt} {A : Nat → Prop} {Wd Wc W' W2 Wr : va_W} {H H1 : Heap} (isC isR : List Nat) (hC : isC.map (fun i => Wd[i]?) = Wc.map some) (hC2 : isC.map (fun i => W2[i]?) = W'.map some) (hR : isR.map (fun i => Wd[i]?) = Wr.map some) (hR2 : isR.map (fun i => W2[i]?) = Wr.map some) (hcov : (List.range W2.length).all (fun k => isC.contains k || isR.contains k) = true) (hdis : isR.all (fun k => !isC.contains k) = true)
    (hP : va_P G.1 vwCl Wd H) (hD : va_D A Wd) (hk : ∀ q : Nat, q < H.size → ¬ va_A Wc H.size q → H1[q]? = H[q]?) (hF : ∀ q, va_A Wc H.size q → A q) (hP1 : va_P G.1 vwCl W' H1) (hD1 : va_D (va_A Wc H.size) W') : va_P G.1 vwCl W2 H1 ∧ va_D A W2 := by
  have cov : ∀ (k : Nat) (q : Nat × va_E), W2[k]? = some q → (∃ j : Nat, isC[j]? = some k ∧ W'[j]? = some q) ∨ (k ∉ isC ∧ Wd[k]? = some q) := by
    intro k q hq
    have hl : k < W2.length := (List.getElem?_eq_some_iff.mp hq).1
    have h1 := List.all_eq_true.mp hcov k (List.mem_range.mpr hl)
    rcases Bool.or_eq_true_iff.mp h1 with h | h
    · obtain ⟨j, hj⟩ := List.getElem?_of_mem (List.contains_iff_mem.mp h)
      exact Or.inl ⟨j, hj, sub_to hC2 hj hq⟩
    · have hm := List.contains_iff_mem.mp h
      have h2 := List.all_eq_true.mp hdis k hm
      refine Or.inr ⟨fun hz => (by rw [List.contains_iff_mem.mpr hz] at h2; cases h2), ?_⟩
      obtain ⟨j, hj⟩ := List.getElem?_of_mem hm
      have h3 : (isR.map (fun i => Wd[i]?))[j]? = (isR.map (fun i => W2[i]?))[j]? := by rw [hR, hR2]
      rw [List.getElem?_map, List.getElem?_map, hj] at h3
      exact (Option.some.inj h3).trans hq
  have old : ∀ (k : Nat) (q : Nat × va_E), k ∉ isC → Wd[k]? = some q → q.1 < H.size ∧ ¬ va_A Wc H.size q.1 := by
    intro k q hn hq
    refine ⟨(hP k q hq).lt, fun hz => ?_⟩
    rcases hz with ⟨j, e, hz⟩ | hz
    · obtain ⟨i, h1, h2⟩ := sub_at hC j (q.1, e) hz
      have := hD.1 i k (q.1, e) q h2 hq rfl
      subst this
      exact hn (List.mem_of_getElem? h1)
    · exact absurd (hP k q hq).lt (Nat.not_lt.mpr hz)
  refine ⟨fun k q hq => ?_, fun i j x y hx hy hxy => ?_, fun k q hq => ?_⟩
  · rcases cov k q hq with ⟨j, -, h2⟩ | ⟨h1, h2⟩
    · exact hP1 j q h2
    · obtain ⟨g1, g2⟩ := old k q h1 h2
      exact (hP k q h2).kept (hk q.1 g1 g2)
  · rcases cov i x hx with ⟨a, a1, a2⟩ | ⟨a1, a2⟩ <;> rcases cov j y hy with ⟨b, b1, b2⟩ | ⟨b1, b2⟩
    · have hab := hD1.1 a b x y a2 b2 hxy
      subst hab
      exact Option.some.inj (a1.symm.trans b1)
    · exact absurd (hxy ▸ hD1.2 a x a2) (old j y b1 b2).2
    · exact absurd (hxy.symm ▸ hD1.2 b y b2) (old i x a1 a2).2
    · exact hD.1 i j x y a2 b2 hxy
  · rcases cov k q hq with ⟨j, -, h2⟩ | ⟨h1, h2⟩
    · exact hF _ (hD1.2 j q h2)
    · exact hD.2 k q h2
section CALLS
variable {p : Program} {l : Launch} {e : Env} {R : Room} {s : State} {m : MethodId} {args : Array Value} {below : List Frame} {meth : Method} {c : Code} {H H0 : Heap} {locs : List Loc} {cells slots : Nat} {Q : State → Prop}
variable {pc : Nat} {ls : Array Slot} {rest st0 : List Value} {a : Array Value} {A : Nat → Prop} {G : Gt} {Wd Wc W' W2 Wr : va_W} {r : Int32} {rl : Int64}
theorem fr_sub (hD : va_D A Wd) (hS : va_S A H0 H locs) (hA : ∀ q, H0.size ≤ q → A q) (isC : List Nat) (hC : isC.map (fun i => Wd[i]?) = Wc.map some) : ∀ q, va_A Wc H.size q → A q := va_free hD hS hA isC hC
theorem cl_i_same (hr : va_Run p l e R s m args below meth c H locs cells slots 0 0 (F0 m pc ls st0) rest (Qi0 G (va_A Wd H.size) r W' a) (va_A Wd H.size)) (hS : va_S A H0 H locs) (hA : ∀ q, H0.size ≤ q → A q) (hD : va_D A Wd)
    (kk : ∀ (H1 : Heap) (locs1 : List Loc), va_P G.1 vwCl W' H1 → va_D A W' → va_S A H0 H1 locs1 → W p l e R s m args below meth c H1 locs1 cells slots Q (F0 m (pc + 3) ls (.int r :: rest))) : W p l e R s m args below meth c H locs cells slots Q (F0 m pc ls st0) := by
  have hF := fr_all hD hS hA
  refine va_calli hr hS (fun q _ h => hF q h) hF (fun r2 u t H1 locs1 ht hvm hw hB hz1 hk1 hS1 => ?_)
  subst hw
  exact kk H1 locs1 (ht ▸ hB.1) (hB.2.weaken (fun _ _ _ h => hF _ h)) hS1
theorem cl_i_ro (isC : List Nat) (hC : isC.map (fun i => Wd[i]?) = Wc.map some) (hr : va_Run p l e R s m args below meth c H locs cells slots 0 0 (F0 m pc ls st0) rest (Qi0 G (va_A Wc H.size) r Wc a) (va_A Wc H.size)) (hS : va_S A H0 H locs) (hA : ∀ q, H0.size ≤ q → A q) (hP : va_P G.1 vwCl Wd H) (hD : va_D A Wd)
    (kk : ∀ (H1 : Heap) (locs1 : List Loc), va_P G.1 vwCl Wd H1 → va_D A Wd → va_S A H0 H1 locs1 → W p l e R s m args below meth c H1 locs1 cells slots Q (F0 m (pc + 3) ls (.int r :: rest))) : W p l e R s m args below meth c H locs cells slots Q (F0 m pc ls st0) := by
  have hF := fr_sub hD hS hA isC hC
  refine va_calli hr hS (fun q _ h => hF q h) hF (fun r2 u t H1 locs1 ht hvm hw hB hz1 hk1 hS1 => ?_)
  subst hw
  exact kk H1 locs1 (ro_P isC hC hP hD hk1 (ht ▸ hB.1)) hD hS1
theorem cl_i_up (isC isR : List Nat) (hC : isC.map (fun i => Wd[i]?) = Wc.map some) (hC2 : isC.map (fun i => W2[i]?) = W'.map some) (hR : isR.map (fun i => Wd[i]?) = Wr.map some) (hR2 : isR.map (fun i => W2[i]?) = Wr.map some) (hcov : (List.range W2.length).all (fun k => isC.contains k || isR.contains k) = true) (hdis : isR.all (fun k => !isC.contains k) = true) (hr : va_Run p l e R s m args below meth c H locs cells slots 0 0 (F0 m pc ls st0) rest (Qi0 G (va_A Wc H.size) r W' a) (va_A Wc H.size)) (hS : va_S A H0 H locs) (hA : ∀ q, H0.size ≤ q → A q) (hP : va_P G.1 vwCl Wd H) (hD : va_D A Wd)
    (kk : ∀ (H1 : Heap) (locs1 : List Loc), va_P G.1 vwCl W2 H1 → va_D A W2 → va_S A H0 H1 locs1 → W p l e R s m args below meth c H1 locs1 cells slots Q (F0 m (pc + 3) ls (.int r :: rest))) : W p l e R s m args below meth c H locs cells slots Q (F0 m pc ls st0) := by
  have hF := fr_sub hD hS hA isC hC
  refine va_calli hr hS (fun q _ h => hF q h) hF (fun r2 u t H1 locs1 ht hvm hw hB hz1 hk1 hS1 => ?_)
  subst hw
  obtain ⟨g1, g2⟩ := up_P isC isR hC hC2 hR hR2 hcov hdis hP hD hk1 hF (ht ▸ hB.1) hB.2
  exact kk H1 locs1 g1 g2 hS1
theorem cl_z_same (hr : va_Run p l e R s m args below meth c H locs cells slots 0 0 (F0 m pc ls st0) rest (Qz0 G (va_A Wd H.size) r W' a) (va_A Wd H.size)) (hS : va_S A H0 H locs) (hA : ∀ q, H0.size ≤ q → A q) (hD : va_D A Wd)
    (kk : ∀ (H1 : Heap) (locs1 : List Loc), narrow .boolean (.int r) = .int r → va_P G.1 vwCl W' H1 → va_D A W' → va_S A H0 H1 locs1 → W p l e R s m args below meth c H1 locs1 cells slots Q (F0 m (pc + 3) ls (.int r :: rest))) : W p l e R s m args below meth c H locs cells slots Q (F0 m pc ls st0) := by
  have hF := fr_all hD hS hA
  refine va_calli hr hS (fun q _ h => hF q h) hF (fun r2 u t H1 locs1 ht hvm hw hB hz1 hk1 hS1 => ?_)
  obtain ⟨hw, hn⟩ := hw
  subst hw
  exact kk H1 locs1 hn (ht ▸ hB.1) (hB.2.weaken (fun _ _ _ h => hF _ h)) hS1
theorem cl_z_ro (isC : List Nat) (hC : isC.map (fun i => Wd[i]?) = Wc.map some) (hr : va_Run p l e R s m args below meth c H locs cells slots 0 0 (F0 m pc ls st0) rest (Qz0 G (va_A Wc H.size) r Wc a) (va_A Wc H.size)) (hS : va_S A H0 H locs) (hA : ∀ q, H0.size ≤ q → A q) (hP : va_P G.1 vwCl Wd H) (hD : va_D A Wd)
    (kk : ∀ (H1 : Heap) (locs1 : List Loc), narrow .boolean (.int r) = .int r → va_P G.1 vwCl Wd H1 → va_D A Wd → va_S A H0 H1 locs1 → W p l e R s m args below meth c H1 locs1 cells slots Q (F0 m (pc + 3) ls (.int r :: rest))) : W p l e R s m args below meth c H locs cells slots Q (F0 m pc ls st0) := by
  have hF := fr_sub hD hS hA isC hC
  refine va_calli hr hS (fun q _ h => hF q h) hF (fun r2 u t H1 locs1 ht hvm hw hB hz1 hk1 hS1 => ?_)
  obtain ⟨hw, hn⟩ := hw
  subst hw
  exact kk H1 locs1 hn (ro_P isC hC hP hD hk1 (ht ▸ hB.1)) hD hS1
theorem cl_z_up (isC isR : List Nat) (hC : isC.map (fun i => Wd[i]?) = Wc.map some) (hC2 : isC.map (fun i => W2[i]?) = W'.map some) (hR : isR.map (fun i => Wd[i]?) = Wr.map some) (hR2 : isR.map (fun i => W2[i]?) = Wr.map some) (hcov : (List.range W2.length).all (fun k => isC.contains k || isR.contains k) = true) (hdis : isR.all (fun k => !isC.contains k) = true) (hr : va_Run p l e R s m args below meth c H locs cells slots 0 0 (F0 m pc ls st0) rest (Qz0 G (va_A Wc H.size) r W' a) (va_A Wc H.size)) (hS : va_S A H0 H locs) (hA : ∀ q, H0.size ≤ q → A q) (hP : va_P G.1 vwCl Wd H) (hD : va_D A Wd)
    (kk : ∀ (H1 : Heap) (locs1 : List Loc), narrow .boolean (.int r) = .int r → va_P G.1 vwCl W2 H1 → va_D A W2 → va_S A H0 H1 locs1 → W p l e R s m args below meth c H1 locs1 cells slots Q (F0 m (pc + 3) ls (.int r :: rest))) : W p l e R s m args below meth c H locs cells slots Q (F0 m pc ls st0) := by
  have hF := fr_sub hD hS hA isC hC
  refine va_calli hr hS (fun q _ h => hF q h) hF (fun r2 u t H1 locs1 ht hvm hw hB hz1 hk1 hS1 => ?_)
  obtain ⟨hw, hn⟩ := hw
  subst hw
  obtain ⟨g1, g2⟩ := up_P isC isR hC hC2 hR hR2 hcov hdis hP hD hk1 hF (ht ▸ hB.1) hB.2
  exact kk H1 locs1 hn g1 g2 hS1
theorem cl_l_same (hr : va_Run p l e R s m args below meth c H locs cells slots 0 0 (F0 m pc ls st0) rest (Ql0 G (va_A Wd H.size) rl W' a) (va_A Wd H.size)) (hS : va_S A H0 H locs) (hA : ∀ q, H0.size ≤ q → A q) (hD : va_D A Wd)
    (kk : ∀ (H1 : Heap) (locs1 : List Loc), va_P G.1 vwCl W' H1 → va_D A W' → va_S A H0 H1 locs1 → W p l e R s m args below meth c H1 locs1 cells slots Q (F0 m (pc + 3) ls (.long rl :: rest))) : W p l e R s m args below meth c H locs cells slots Q (F0 m pc ls st0) := by
  have hF := fr_all hD hS hA
  refine va_calll hr hS (fun q _ h => hF q h) hF (fun r2 u t H1 locs1 ht hvm hw hB hz1 hk1 hS1 => ?_)
  subst hw
  exact kk H1 locs1 (ht ▸ hB.1) (hB.2.weaken (fun _ _ _ h => hF _ h)) hS1
theorem cl_l_ro (isC : List Nat) (hC : isC.map (fun i => Wd[i]?) = Wc.map some) (hr : va_Run p l e R s m args below meth c H locs cells slots 0 0 (F0 m pc ls st0) rest (Ql0 G (va_A Wc H.size) rl Wc a) (va_A Wc H.size)) (hS : va_S A H0 H locs) (hA : ∀ q, H0.size ≤ q → A q) (hP : va_P G.1 vwCl Wd H) (hD : va_D A Wd)
    (kk : ∀ (H1 : Heap) (locs1 : List Loc), va_P G.1 vwCl Wd H1 → va_D A Wd → va_S A H0 H1 locs1 → W p l e R s m args below meth c H1 locs1 cells slots Q (F0 m (pc + 3) ls (.long rl :: rest))) : W p l e R s m args below meth c H locs cells slots Q (F0 m pc ls st0) := by
  have hF := fr_sub hD hS hA isC hC
  refine va_calll hr hS (fun q _ h => hF q h) hF (fun r2 u t H1 locs1 ht hvm hw hB hz1 hk1 hS1 => ?_)
  subst hw
  exact kk H1 locs1 (ro_P isC hC hP hD hk1 (ht ▸ hB.1)) hD hS1
theorem cl_v_same (hr : va_Run p l e R s m args below meth c H locs cells slots 0 0 (F0 m pc ls st0) rest (Qv0 G (va_A Wd H.size) W' a) (va_A Wd H.size)) (hS : va_S A H0 H locs) (hA : ∀ q, H0.size ≤ q → A q) (hD : va_D A Wd)
    (kk : ∀ (H1 : Heap) (locs1 : List Loc), va_P G.1 vwCl W' H1 → va_D A W' → va_S A H0 H1 locs1 → W p l e R s m args below meth c H1 locs1 cells slots Q (F0 m (pc + 3) ls rest)) : W p l e R s m args below meth c H locs cells slots Q (F0 m pc ls st0) := by
  have hF := fr_all hD hS hA
  refine va_callv hr hS (fun q _ h => hF q h) hF (fun u t H1 locs1 ht hvm hw hB hz1 hk1 hS1 => ?_)
  exact kk H1 locs1 (ht ▸ hB.1) (hB.2.weaken (fun _ _ _ h => hF _ h)) hS1
theorem cl_v_ro (isC : List Nat) (hC : isC.map (fun i => Wd[i]?) = Wc.map some) (hr : va_Run p l e R s m args below meth c H locs cells slots 0 0 (F0 m pc ls st0) rest (Qv0 G (va_A Wc H.size) Wc a) (va_A Wc H.size)) (hS : va_S A H0 H locs) (hA : ∀ q, H0.size ≤ q → A q) (hP : va_P G.1 vwCl Wd H) (hD : va_D A Wd)
    (kk : ∀ (H1 : Heap) (locs1 : List Loc), va_P G.1 vwCl Wd H1 → va_D A Wd → va_S A H0 H1 locs1 → W p l e R s m args below meth c H1 locs1 cells slots Q (F0 m (pc + 3) ls rest)) : W p l e R s m args below meth c H locs cells slots Q (F0 m pc ls st0) := by
  have hF := fr_sub hD hS hA isC hC
  refine va_callv hr hS (fun q _ h => hF q h) hF (fun u t H1 locs1 ht hvm hw hB hz1 hk1 hS1 => ?_)
  exact kk H1 locs1 (ro_P isC hC hP hD hk1 (ht ▸ hB.1)) hD hS1
theorem cl_v_up (isC isR : List Nat) (hC : isC.map (fun i => Wd[i]?) = Wc.map some) (hC2 : isC.map (fun i => W2[i]?) = W'.map some) (hR : isR.map (fun i => Wd[i]?) = Wr.map some) (hR2 : isR.map (fun i => W2[i]?) = Wr.map some) (hcov : (List.range W2.length).all (fun k => isC.contains k || isR.contains k) = true) (hdis : isR.all (fun k => !isC.contains k) = true) (hr : va_Run p l e R s m args below meth c H locs cells slots 0 0 (F0 m pc ls st0) rest (Qv0 G (va_A Wc H.size) W' a) (va_A Wc H.size)) (hS : va_S A H0 H locs) (hA : ∀ q, H0.size ≤ q → A q) (hP : va_P G.1 vwCl Wd H) (hD : va_D A Wd)
    (kk : ∀ (H1 : Heap) (locs1 : List Loc), va_P G.1 vwCl W2 H1 → va_D A W2 → va_S A H0 H1 locs1 → W p l e R s m args below meth c H1 locs1 cells slots Q (F0 m (pc + 3) ls rest)) : W p l e R s m args below meth c H locs cells slots Q (F0 m pc ls st0) := by
  have hF := fr_sub hD hS hA isC hC
  refine va_callv hr hS (fun q _ h => hF q h) hF (fun u t H1 locs1 ht hvm hw hB hz1 hk1 hS1 => ?_)
  obtain ⟨g1, g2⟩ := up_P isC isR hC hC2 hR hR2 hcov hdis hP hD hk1 hF (ht ▸ hB.1) hB.2
  exact kk H1 locs1 g1 g2 hS1
end CALLS
theorem lp_W1 {σ ρ : Type} (b : σ → Option (σ ⊕ ρ)) (WH : σ → Prop) (K : ρ → Prop) (hs : ∀ (K1 : σ ⊕ ρ → Prop), (∀ z, K1 (.inl z) → WH z) → (∀ x, K1 (.inr x) → K x) → ∀ z res, b z = some res → K1 res → WH z) {z : σ} {x : ρ} (h : lp b z = some x) (hK : K x) : WH z :=
  lp_W b WH K (fun z res h1 h2 => hs (Sum.elim WH K) (fun _ h => h) (fun _ h => h) z res h1 h2) h hK
theorem lp_W2 {σ ε ρ : Type} (b : σ → Option (σ ⊕ (ε ⊕ ρ))) (WH : σ → Prop) (KX : ε → Prop) (K : ρ → Prop) (hs : ∀ (K1 : σ ⊕ (ε ⊕ ρ) → Prop), (∀ z, K1 (.inl z) → WH z) → (∀ x, K1 (.inr (.inl x)) → KX x) → (∀ x, K1 (.inr (.inr x)) → K x) → ∀ z res, b z = some res → K1 res → WH z) {z : σ} {x : ε ⊕ ρ} (h : lp b z = some x) (hK : Sum.elim KX K x) : WH z :=
  lp_W b WH (Sum.elim KX K) (fun z res h1 h2 => hs (Sum.elim WH (Sum.elim KX K)) (fun _ h => h) (fun _ h => h) (fun _ h => h) z res h1 h2) h hK
def two_o (a b : Nat) : Nat → Option Nat := va_up (va_up (fun _ => none) 0 (some a)) 1 (some b)
def four_o (a b c d : Nat) : Nat → Option Nat := va_up (va_up (va_up (va_up (fun _ => none) 0 (some a)) 1 (some b)) 2 (some c)) 3 (some d)
abbrev wRow (G : Gt) (a : Nat) (n : Nat) (f : Nat → Int32) : va_W := [(a, .inl (G.2 0, n, .inl f))]
abbrev wX0 (G : Gt) (ad : Nat → Nat) (f : Mem) : va_W := [(ad 0, .inr (0, [.int (f 0 0), .int (f 0 1), .int (f 0 2), .ref (ad 1), .ref (ad 2), .ref (ad 3), .ref (ad 4), .ref (ad 5), .ref (ad 6), .ref (ad 7), .ref (ad 8), .ref (ad 9), .ref (ad 10)])), (ad 1, .inl (G.2 0, 3, .inl (f 1))), (ad 2, .inl (G.2 0, 3, .inl (f 2))), (ad 3, .inl (G.2 0, 3, .inl (f 3))), (ad 4, .inl (G.2 0, 15, .inl (f 4))), (ad 5, .inl (G.2 0, 5, .inl (f 5))), (ad 6, .inl (G.2 0, 5, .inl (f 6))), (ad 7, .inl (G.2 0, 6, .inl (f 7))), (ad 8, .inl (G.2 0, 6, .inl (f 8))), (ad 9, .inl (G.2 0, 6, .inl (f 9))), (ad 10, .inl (G.2 0, 6, .inl (f 10)))]
abbrev wX1 (G : Gt) (ad : Nat → Nat) (fl : Nat) (f : Mem) : va_W := [(ad 0, .inr (1, [.ref fl, .ref (ad 1), .int (f 0 0), .int (f 0 1), .int (f 0 2), .int (f 0 3), .int (f 0 4), .int (f 0 5), .int (f 0 6)])), (ad 1, .inl (G.2 0, 135, .inl (f 1)))]
abbrev wX2 (G : Gt) (ad : Nat → Nat) (f : Mem) : va_W := [(ad 0, .inr (2, [.ref (ad 1), .int (f 0 0), .int (f 0 1), .int (f 0 2)])), (ad 1, .inl (G.2 0, 40, .inl (f 1)))]
abbrev wX3 (G : Gt) (ad : Nat → Nat) (f : Mem) : va_W := [(ad 0, .inr (3, [.int (f 0 0), .ref (ad 1), .ref (ad 2), .ref (ad 3), .ref (ad 4)])), (ad 1, .inl (G.2 0, 6, .inl (f 1))), (ad 2, .inl (G.2 0, 6, .inl (f 2))), (ad 3, .inl (G.2 0, 6, .inl (f 3))), (ad 4, .inl (G.2 0, 6, .inl (f 4)))]
abbrev wX4 (G : Gt) (ad : Nat → Nat) (f : Mem) : va_W := [(ad 0, .inr (4, [.ref (ad 1), .int (f 0 0), .int (f 0 1), .int (f 0 2), .int (f 0 3), .int (f 0 4)])), (ad 1, .inl (G.2 0, 160, .inl (f 1)))]
abbrev wX5 (G : Gt) (ad : Nat → Nat) (dr : Nat) (f : Mem) : va_W := [(ad 0, .inr (5, [.ref dr, .int (f 0 0), .int (f 0 1), .int (f 0 2), .int (f 0 3), .int (f 0 4), .int (f 0 5)]))]
abbrev wX6 (G : Gt) (ad : Nat → Nat) (ado : Nat → Nat → Nat) (f : Mem) : va_W := [(ad 0, .inr (6, [.ref (ado 1 0), .ref (ado 2 0), .ref (ad 1), .int (f 0 0), .ref (ado 5 0), .ref (ado 6 0), .ref (ado 8 0), .ref (ad 2), .ref (ado 9 0), .ref (ad 3), .int (f 0 1)])), (ad 1, .inl (G.2 2, 2, .inr (.inr (.inr (.inr (two_o (ado 3 0) (ado 4 0))))))), (ad 2, .inl (G.2 0, 420, .inl (f 2))), (ad 3, .inl (G.2 3, 4, .inr (.inr (.inr (.inr (four_o (ado 11 0) (ado 12 0) (ado 13 0) (ado 14 0)))))))]
abbrev wX7 (G : Gt) (ad : Nat → Nat) (f : Mem) : va_W := [(ad 0, .inr (7, [.ref (ad 1), .int (f 0 0), .ref (ad 2), .int (f 0 1), .int (f 0 2), .int (f 0 3), .int (f 0 4), .ref (ad 3), .int (f 0 5), .int (f 0 6), .int (f 0 7), .int (f 0 8), .int (f 0 9), .int (f 0 10), .int (f 0 11), .int (f 0 12), .ref (ad 4), .ref (ad 5), .int (f 0 13), .int (f 0 14), .int (f 0 15), .int (f 0 16), .int (f 0 17), .int (f 0 18), .int (f 0 19), .int (f 0 20), .ref (ad 6), .int (f 0 21), .ref (ad 7), .ref (ad 8), .ref (ad 9), .ref (ad 10), .ref (ad 11), .int (f 0 22)])), (ad 1, .inl (G.2 0, 360, .inl (f 1))), (ad 2, .inl (G.2 0, 60, .inl (f 2))), (ad 3, .inl (G.2 0, 160, .inl (f 3))), (ad 4, .inl (G.2 0, 8, .inl (f 4))), (ad 5, .inl (G.2 0, 36, .inl (f 5))), (ad 6, .inl (G.2 0, 24, .inl (f 6))), (ad 7, .inl (G.2 0, 420, .inl (f 7))), (ad 8, .inl (G.2 1, 2, .inl (f 8))), (ad 9, .inl (G.2 0, 4, .inl (f 9))), (ad 10, .inl (G.2 0, 4, .inl (f 10))), (ad 11, .inl (G.2 0, 160, .inl (f 11)))]
theorem ic_m1 : Int32.ofInt (-1) = (-1 : Int32) := by decide
theorem ic_0 : Int32.ofInt (0) = (nI 0) := by decide
theorem ic_1 : Int32.ofInt (1) = (nI 1) := by decide
theorem ic_2 : Int32.ofInt (2) = (nI 2) := by decide
theorem ic_3 : Int32.ofInt (3) = (nI 3) := by decide
theorem ic_4 : Int32.ofInt (4) = (nI 4) := by decide
theorem ic_5 : Int32.ofInt (5) = (nI 5) := by decide
theorem bi_m20 : (Int8.ofInt (-20)).toInt32 = (-20 : Int32) := by decide
theorem bi_m14 : (Int8.ofInt (-14)).toInt32 = (-14 : Int32) := by decide
theorem bi_m12 : (Int8.ofInt (-12)).toInt32 = (-12 : Int32) := by decide
theorem bi_m11 : (Int8.ofInt (-11)).toInt32 = (-11 : Int32) := by decide
theorem bi_m10 : (Int8.ofInt (-10)).toInt32 = (-10 : Int32) := by decide
theorem bi_m4 : (Int8.ofInt (-4)).toInt32 = (-4 : Int32) := by decide
theorem bi_m3 : (Int8.ofInt (-3)).toInt32 = (-3 : Int32) := by decide
theorem bi_m2 : (Int8.ofInt (-2)).toInt32 = (-2 : Int32) := by decide
theorem bi_6 : (Int8.ofInt (6)).toInt32 = (nI 6) := by decide
theorem bi_7 : (Int8.ofInt (7)).toInt32 = (nI 7) := by decide
theorem bi_8 : (Int8.ofInt (8)).toInt32 = (nI 8) := by decide
theorem bi_9 : (Int8.ofInt (9)).toInt32 = (nI 9) := by decide
theorem bi_10 : (Int8.ofInt (10)).toInt32 = (nI 10) := by decide
theorem bi_11 : (Int8.ofInt (11)).toInt32 = (nI 11) := by decide
theorem bi_14 : (Int8.ofInt (14)).toInt32 = (nI 14) := by decide
theorem bi_15 : (Int8.ofInt (15)).toInt32 = (nI 15) := by decide
theorem bi_16 : (Int8.ofInt (16)).toInt32 = (nI 16) := by decide
theorem bi_19 : (Int8.ofInt (19)).toInt32 = (nI 19) := by decide
theorem bi_20 : (Int8.ofInt (20)).toInt32 = (nI 20) := by decide
theorem bi_21 : (Int8.ofInt (21)).toInt32 = (nI 21) := by decide
theorem bi_24 : (Int8.ofInt (24)).toInt32 = (nI 24) := by decide
theorem bi_30 : (Int8.ofInt (30)).toInt32 = (nI 30) := by decide
theorem bi_31 : (Int8.ofInt (31)).toInt32 = (nI 31) := by decide
theorem bi_32 : (Int8.ofInt (32)).toInt32 = (nI 32) := by decide
theorem bi_34 : (Int8.ofInt (34)).toInt32 = (nI 34) := by decide
theorem bi_35 : (Int8.ofInt (35)).toInt32 = (nI 35) := by decide
theorem bi_40 : (Int8.ofInt (40)).toInt32 = (nI 40) := by decide
theorem bi_48 : (Int8.ofInt (48)).toInt32 = (nI 48) := by decide
theorem bi_57 : (Int8.ofInt (57)).toInt32 = (nI 57) := by decide
theorem bi_59 : (Int8.ofInt (59)).toInt32 = (nI 59) := by decide
theorem bi_60 : (Int8.ofInt (60)).toInt32 = (nI 60) := by decide
theorem bi_63 : (Int8.ofInt (63)).toInt32 = (nI 63) := by decide
theorem bi_97 : (Int8.ofInt (97)).toInt32 = (nI 97) := by decide
theorem bi_99 : (Int8.ofInt (99)).toInt32 = (nI 99) := by decide
theorem bi_100 : (Int8.ofInt (100)).toInt32 = (nI 100) := by decide
theorem bi_105 : (Int8.ofInt (105)).toInt32 = (nI 105) := by decide
theorem bi_122 : (Int8.ofInt (122)).toInt32 = (nI 122) := by decide
theorem bi_127 : (Int8.ofInt (127)).toInt32 = (nI 127) := by decide
theorem si_160 : (Int16.ofInt (160)).toInt32 = (nI 160) := by decide
theorem si_180 : (Int16.ofInt (180)).toInt32 = (nI 180) := by decide
theorem si_200 : (Int16.ofInt (200)).toInt32 = (nI 200) := by decide
theorem si_240 : (Int16.ofInt (240)).toInt32 = (nI 240) := by decide
theorem si_254 : (Int16.ofInt (254)).toInt32 = (nI 254) := by decide
theorem si_256 : (Int16.ofInt (256)).toInt32 = (nI 256) := by decide
theorem si_300 : (Int16.ofInt (300)).toInt32 = (nI 300) := by decide
theorem si_495 : (Int16.ofInt (495)).toInt32 = (nI 495) := by decide
theorem si_500 : (Int16.ofInt (500)).toInt32 = (nI 500) := by decide
theorem si_999 : (Int16.ofInt (999)).toInt32 = (nI 999) := by decide
theorem si_12345 : (Int16.ofInt (12345)).toInt32 = (nI 12345) := by decide
theorem si_32767 : (Int16.ofInt (32767)).toInt32 = (nI 32767) := by decide
section TBL
variable {p : Program} {l : Launch} {e : Env} {R : Room} {s : State} {m : MethodId} {args : Array Value} {below : List Frame} {meth : Method} {c : Code} {H : Heap} {locs : List Loc} {cells slots : Nat} {Q : State → Prop} {cc : ByteArray} {pc : Nat} {ls : Array Slot} {rest : List Value}
theorem tbl_mix (hexec : p.tables.exec = Jvm.exec) (hb : c.code = cc) {dflt lo hi : Int} {offs : Array Int} {len : Nat} {x : Int32} {tgt : Nat} (hdg : decode cc pc = .ok (.tableswitch dflt lo hi offs, len)) (ht : (pc : Int) + dflt = (tgt : Int)) (h : ∀ k : Nat, lo ≤ x.toInt → x.toInt ≤ hi → k = (x.toInt - lo).toNat → offs[k]? = some dflt)
    (k : W p l e R s m args below meth c H locs cells slots Q (F0 m tgt ls rest)) : W p l e R s m args below meth c H locs cells slots Q (F0 m pc ls (.int x :: rest)) := by
  by_cases h1 : x.toInt < lo
  · exact lv_tableOut hexec hb hdg (Or.inl h1) ht k
  · by_cases h2 : hi < x.toInt
    · exact lv_tableOut hexec hb hdg (Or.inr h2) ht k
    · exact lv_tableIn hexec hb hdg h1 h2 (h _ (Int.not_lt.mp h1) (Int.not_lt.mp h2) rfl) ht k
end TBL
