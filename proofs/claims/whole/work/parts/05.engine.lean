/-! The engine: one judgement V over a mathematical picture of the whole heap (ints, longs, references by cell number), a rule an instruction. -/
-- the environment: launch, class numbers and slots, the array classes (int, byte, long), the first cell's address, the script's address, its length, its values
abbrev En : Type := Launch × va_G × (ClassId × ClassId × ClassId) × Nat × Nat × Nat × (Nat → Int32)
abbrev eL (E : En) : Launch := E.1
abbrev eD (E : En) : va_G := E.2.1
abbrev eA (E : En) : ClassId × ClassId × ClassId := E.2.2.1
abbrev eB (E : En) : Nat := E.2.2.2.1
abbrev eS (E : En) : Nat := E.2.2.2.2.1
abbrev eN (E : En) : Nat := E.2.2.2.2.2.1
abbrev eX (E : En) : Nat → Int32 := E.2.2.2.2.2.2
abbrev TI : Type := Nat → Nat → Int32
abbrev TJ : Type := Nat → Nat → Int64
abbrev TR : Type := Nat → Nat → Option Nat
-- a method: its name, code, locals, answer, the cells and slots that it makes, whether it is the law
abbrev Mt : Type := MethodName × ByteArray × Nat × Option FieldType × Nat × Nat × Bool
abbrev mY (M : Mt) : MethodName := M.1
abbrev mC (M : Mt) : ByteArray := M.2.1
abbrev mL (M : Mt) : Nat := M.2.2.1
abbrev mR (M : Mt) : Option FieldType := M.2.2.2.1
abbrev mc_ (M : Mt) : Nat := M.2.2.2.2.1
abbrev ms_ (M : Mt) : Nat := M.2.2.2.2.2.1
abbrev mW (M : Mt) : Bool := M.2.2.2.2.2.2
abbrev PT : Type := Option Value → Nat → TI → TJ → TR → Prop
def up2 {α : Type} (f : Nat → Nat → α) (k s : Nat) (v : α) : Nat → Nat → α := fun a b => if a = k then (if b = s then v else f a b) else f a b
theorem up2_self {α : Type} (f : Nat → Nat → α) (k s : Nat) (v : α) : up2 f k s v k s = v := by simp [up2]
theorem up2_ne {α : Type} (f : Nat → Nat → α) {k s a b : Nat} (v : α) (h : ¬ (a = k ∧ b = s)) : up2 f k s v a b = f a b := by
  unfold up2
  by_cases h1 : a = k
  · rw [if_pos h1, if_neg (fun h2 => h ⟨h1, h2⟩)]
  · rw [if_neg h1]
theorem up2_k {α : Type} (f : Nat → Nat → α) {k s a : Nat} (v : α) (b : Nat) (h : a ≠ k) : up2 f k s v a b = f a b := by simp [up2, h]
theorem up2_row {α : Type} (f : Nat → Nat → α) (k s : Nat) (v : α) : up2 f k s v k = fun b => if b = s then v else f k b := by funext b; simp [up2]
theorem up2_row_ne {α : Type} (f : Nat → Nat → α) {k s a : Nat} (v : α) (h : a ≠ k) : up2 f k s v a = f a := by funext b; simp [up2, h]
/-- what a value of the picture is in the machine: a cell's number becomes its address; retAddr stands for the script -/
def cv (E : En) (v : Value) : Value := match v with
  | .ref k => .ref (eB E + k)
  | .retAddr _ => .ref (eS E)
  | w => w
theorem cv_cat (E : En) (v : Value) : (cv E v).category = v.category := by cases v <;> rfl
def rv (E : En) (r : Option Nat) : Value := match r with
  | none => .null
  | some q => .ref (eB E + q)
def fvl (E : En) (I : TI) (J : TJ) (R : TR) (k s kd : Nat) : Value := match kd with
  | 0 => .int (I k s)
  | 1 => .long (J k s)
  | _ => rv E (R k s)
def fl (E : En) (I : TI) (J : TJ) (R : TR) (k ci : Nat) : List Value := (List.range (fk ci).length).map (fun s => fvl E I J R k s ((fk ci).getD s 0))
def cel (E : En) (I : TI) (J : TJ) (R : TR) (k : Nat) : va_E := match shp k with
  | .inl (0, n) => .inl ((eA E).1, n, .inl (I k))
  | .inl (1, n) => .inl ((eA E).2.1, n, .inl (I k))
  | .inl (_, n) => .inl ((eA E).2.2, n, .inr (.inl (J k)))
  | .inr ci => .inr (ci, fl E I J R k ci)
def wld (E : En) (n : Nat) (I : TI) (J : TJ) (R : TR) : va_W := (List.range n).map (fun k => (eB E + k, cel E I J R k))
abbrev tys (E : En) : List (ClassId × FieldType) := [((eA E).1, .int), ((eA E).2.1, .byte), ((eA E).2.2, .long)]
def Hld (E : En) (n : Nat) (I : TI) (J : TJ) (R : TR) (H : Heap) : Prop := va_P (eD E) vwCl (wld E n I J R) H ∧ H.size = eB E + n
def okw (w : Cond) : Bool := match w with
  | .methodLinkNest _ _ _ _ => true
  | w => goodWord w
abbrev TB : List Cond := lw_tbl.filter okw
def Stt (E : En) (U : State) : Prop := va_K (eD E) vwCl (tys E) U ∧ ∀ w ∈ lw_tbl, okw w = true → ∀ a : Array Value, w.before a U = true
theorem ulay_TB {C : String} {T : u_T} {N : Nat} (h : ∀ w ∈ u_ws C T N, w ∈ lw_tbl) : ∀ w ∈ u_ws C T N, w ∈ TB := by
  intro w hw
  refine List.mem_filter.mpr ⟨h w hw, ?_⟩
  obtain ⟨k, -, rfl⟩ := List.mem_map.mp hw
  unfold u_lay
  split <;> rfl
theorem word_mv {w : Cond} (ho : okw w = true) {s U : State} (hW : s.WarmedH U.vm) {a : Array Value} (h : w.before a s = true) (a' : Array Value) : w.before a' U = true := by
  by_cases hn : ∃ p q r t, w = .methodLinkNest p q r t
  · obtain ⟨p, q, r, t, rfl⟩ := hn
    exact va_Nw.use rfl (va_Nw.warmM hW (va_Nw.of rfl h))
  · have hg : goodWord w = true := by
      unfold okw at ho
      split at ho
      · exact absurd ⟨_, _, _, _, rfl⟩ hn
      · exact ho
    exact word_at hW (good_of_word hg) h
theorem Stt.mv {E : En} {s U : State} (h : Stt E s) (hW : s.WarmedH U.vm) : Stt E U :=
  ⟨va_K.moved hW.alike h.1, fun w hw ho a => word_mv ho hW (h.2 w hw ho #[]) a⟩
theorem wld_at (E : En) {n k : Nat} (I : TI) (J : TJ) (R : TR) (hk : k < n) : (wld E n I J R)[k]? = some (eB E + k, cel E I J R k) := by
  simp [wld, hk]
theorem wld_len (E : En) (n : Nat) (I : TI) (J : TJ) (R : TR) : (wld E n I J R).length = n := by simp [wld]
theorem wld_D (E : En) (n : Nat) (I : TI) (J : TJ) (R : TR) : va_D (fun q => eB E ≤ q) (wld E n I J R) := by
  have key : ∀ (i : Nat) (p : Nat × va_E), (wld E n I J R)[i]? = some p → p.1 = eB E + i := by
    intro i p h
    have hl : i < n := by
      have := (List.getElem?_eq_some_iff.mp h).1
      rwa [wld_len] at this
    rw [wld_at E I J R hl] at h
    cases h
    rfl
  refine ⟨fun i j p q h1 h2 h3 => ?_, fun k q h => ?_⟩
  · have e1 := key i p h1
    have e2 := key j q h2
    omega
  · have e1 := key k q h
    show eB E ≤ q.1
    omega
theorem wld_set (E : En) {n k : Nat} {I I' : TI} {J J' : TJ} {R R' : TR} {e : va_E} (hk : k < n) (he : e = cel E I' J' R' k) (ho : ∀ j, j ≠ k → cel E I' J' R' j = cel E I J R j) : (wld E n I J R).set k (eB E + k, e) = wld E n I' J' R' := by
  apply List.ext_getElem?
  intro i
  by_cases hi : i = k
  · subst hi
    rw [List.getElem?_set_self (by rw [wld_len]; exact hk), wld_at E I' J' R' hk, he]
  · rw [List.getElem?_set_ne (Ne.symm hi)]
    by_cases hl : i < n
    · rw [wld_at E I J R hl, wld_at E I' J' R' hl, ho i hi]
    · rw [List.getElem?_eq_none (by rw [wld_len]; omega), List.getElem?_eq_none (by rw [wld_len]; omega)]
theorem cel_I {E : En} {I : TI} {J : TJ} {R : TR} {k s j : Nat} {v : Int32} (h : j ≠ k) : cel E (up2 I k s v) J R j = cel E I J R j := by
  have e : ∀ s' kd, fvl E (up2 I k s v) J R j s' kd = fvl E I J R j s' kd := by
    intro s' kd
    unfold fvl
    split <;> simp [up2_k I v _ h]
  unfold cel
  split <;> simp [up2_row_ne I v h, fl, e]
theorem cel_J {E : En} {I : TI} {J : TJ} {R : TR} {k s j : Nat} {v : Int64} (h : j ≠ k) : cel E I (up2 J k s v) R j = cel E I J R j := by
  have e : ∀ s' kd, fvl E I (up2 J k s v) R j s' kd = fvl E I J R j s' kd := by
    intro s' kd
    unfold fvl
    split <;> simp [up2_k J v _ h]
  unfold cel
  split <;> simp [up2_row_ne J v h, fl, e]
theorem cel_R {E : En} {I : TI} {J : TJ} {R : TR} {k s j : Nat} {v : Option Nat} (h : j ≠ k) : cel E I J (up2 R k s v) j = cel E I J R j := by
  have e : ∀ s' kd, fvl E I J (up2 R k s v) j s' kd = fvl E I J R j s' kd := by
    intro s' kd
    unfold fvl
    split <;> simp [up2_k R v _ h]
  unfold cel
  split <;> simp [fl, e]
-- the locals
def LV (E : En) (nL : Nat) (ls : List (Option Value)) (lc : Array Slot) : Prop := lc.size = nL ∧ lv_wf lc ∧ ∀ (i : Nat) (v : Value), ls[i]? = some (some v) → lc[i]? = some (.val (cv E v))
def toA (E : En) (ls : List (Option Value)) : List (Nat × Value) := (List.range ls.length).filterMap (fun i => match ls[i]? with | some (some v) => some (i, cv E v) | _ => none)
theorem toA_mem {E : En} {ls : List (Option Value)} {q : Nat × Value} : q ∈ toA E ls ↔ ∃ v, ls[q.1]? = some (some v) ∧ q.2 = cv E v := by
  unfold toA
  rw [List.mem_filterMap]
  constructor
  · rintro ⟨i, -, h⟩
    split at h
    · rename_i v hv
      cases h
      exact ⟨v, hv, rfl⟩
    · cases h
  · rintro ⟨v, h1, h2⟩
    refine ⟨q.1, List.mem_range.mpr (List.getElem?_eq_some_iff.mp h1).1, ?_⟩
    rw [h1]
    simp [← h2]
theorem LV.has {E : En} {nL : Nat} {ls : List (Option Value)} {lc : Array Slot} (h : LV E nL ls lc) : lv_has lc nL (toA E ls) := by
  refine ⟨h.1, h.2.1, fun q hq => ?_⟩
  obtain ⟨v, h1, h2⟩ := toA_mem.mp hq
  rw [h2]
  exact h.2.2 q.1 v h1
def nl (v : Option Value) : Bool := match v with
  | some (.long _) => false
  | some (.double _) => false
  | _ => true
theorem nl_cat {v : Value} (h : nl (some v) = true) : ¬ v.category = 2 := by
  cases v <;> first | (intro q; cases q; done) | (cases h; done)
theorem LV.set1 {E : En} {nL i : Nat} {ls : List (Option Value)} {lc : Array Slot} {v w : Value} (hv : w = cv E v) (h : lv_has lc nL ((i, w) :: (toA E ls).filter (fun q => !(q.1 == i) && !(q.1 + 1 == i && q.2.category == 2)))) (hn : ∀ j, j + 1 = i → nl (ls.getD j none) = true) : LV E nL (ls.set i (some v)) lc := by
  subst hv
  refine ⟨h.1, h.2.1, fun j u hj => ?_⟩
  by_cases hji : j = i
  · subst hji
    have hl : j < ls.length := by
      have := (List.getElem?_eq_some_iff.mp hj).1
      simpa using this
    rw [List.getElem?_set_self hl] at hj
    cases hj
    exact h.2.2 (j, cv E v) List.mem_cons_self
  · rw [List.getElem?_set_ne (Ne.symm hji)] at hj
    refine h.2.2 (j, cv E u) (List.mem_cons_of_mem _ (List.mem_filter.mpr ⟨toA_mem.mpr ⟨u, hj, rfl⟩, ?_⟩))
    simp only [Bool.and_eq_true, Bool.not_eq_true', beq_eq_false_iff_ne, ne_eq, Bool.and_eq_false_iff]
    refine ⟨hji, ?_⟩
    by_cases hj1 : j + 1 = i
    · right
      have := hn j hj1
      rw [List.getD_eq_getElem?_getD, hj] at this
      rw [cv_cat]
      exact nl_cat this
    · left; exact hj1
theorem LV.set2 {E : En} {nL i : Nat} {ls : List (Option Value)} {lc : Array Slot} {x : Int64} (h : lv_has lc nL ((i, Value.long x) :: (toA E ls).filter (fun q => !(q.1 == i) && (!(q.1 == i + 1) && !(q.1 + 1 == i && q.2.category == 2))))) (hn : ∀ j, j + 1 = i → nl (ls.getD j none) = true) : LV E nL ((ls.set i (some (.long x))).set (i + 1) none) lc := by
  refine ⟨h.1, h.2.1, fun j u hj => ?_⟩
  by_cases hj2 : j = i + 1
  · subst hj2
    have hl : i + 1 < ls.length := by
      have := (List.getElem?_eq_some_iff.mp hj).1
      simpa using this
    rw [List.getElem?_set_self (by simpa using hl)] at hj
    cases hj
  · rw [List.getElem?_set_ne (Ne.symm hj2)] at hj
    by_cases hji : j = i
    · subst hji
      have hl : j < ls.length := by
        have := (List.getElem?_eq_some_iff.mp hj).1
        simpa using this
      rw [List.getElem?_set_self hl] at hj
      cases hj
      exact h.2.2 (j, Value.long x) List.mem_cons_self
    · rw [List.getElem?_set_ne (Ne.symm hji)] at hj
      refine h.2.2 (j, cv E u) (List.mem_cons_of_mem _ (List.mem_filter.mpr ⟨toA_mem.mpr ⟨u, hj, rfl⟩, ?_⟩))
      simp only [Bool.and_eq_true, Bool.not_eq_true', beq_eq_false_iff_ne, ne_eq, Bool.and_eq_false_iff]
      refine ⟨hji, hj2, ?_⟩
      by_cases hj1 : j + 1 = i
      · right
        have := hn j hj1
        rw [List.getD_eq_getElem?_getD, hj] at this
        rw [cv_cat]
        exact nl_cat this
      · left; exact hj1
-- a contract's start and end
def PcE (E : En) (as : List Value) (n : Nat) (I : TI) (J : TJ) (R : TR) : Array Value → State → Prop := fun v U => v = (as.map (cv E)).toArray ∧ Hld E n I J R U.heap ∧ Stt E U
def QcE (E : En) (Post : PT) : Array Value → State → Outcome → State → Prop := fun _ st o t => ∃ (v : Option Value) (n' : Nat) (I' : TI) (J' : TJ) (R' : TR), o = .returned (v.map (cv E)) ∧ Post v n' I' J' R' ∧ Hld E n' I' J' R' t.heap ∧ st.heap.size ≤ t.heap.size ∧ ∀ q : Nat, q < eB E → t.heap[q]? = st.heap[q]?
def rmM (d : Nat) (M : Mt) : Room := { frames := d, cells := mc_ M, slots := ms_ M, locals := 41 * d + 32 }
def lw_Q (_ : Array Value) (s : State) (o : Outcome) (t : State) : Prop := o = .returned (some (.int 1)) ∧ Framed s o t [] 600000 7302250
def lw_Z (below : List Frame) (a : Array Value) (s : State) : State → Prop := fun t => ∃ o, t.status = .running ∧ Ended t below o ∧ lw_Q a s o t
def QM (E : En) (M : Mt) (Post : PT) (below : List Frame) (args : Array Value) (s : State) : State → Prop := if mW M = true then lw_Z below args s else MQ below (QcE E Post) args s (mc_ M) (ms_ M) (fun q => eB E ≤ q)
def Ctx (E : En) (M : Mt) (p : Program) (s : State) (m : MethodId) (args : Array Value) (meth : Method) (c : Code) : Prop :=
  p.tables.exec = Jvm.exec ∧ c.code = mC M ∧ c.maxLocals = mL M ∧ meth.sig.returnType = mR M ∧ s.vm.findClass (mY M).cls = some m.cls ∧ meth.locks = false ∧ meth.name = (mY M).name ∧ Stt E s ∧ eB E ≤ s.heap.size ∧ (mW M = true → args = #[.ref (eS E)] ∧ eB E = s.heap.size ∧ va_X (eS E) (eN E) (eX E) s s.heap ∧ eS E < eB E)
def V (E : En) (d : Nat) (M : Mt) (Post : PT) (pc : Nat) (ls : List (Option Value)) (st : List Value) (n cs sl : Nat) (I : TI) (J : TJ) (R : TR) : Prop :=
  ∀ (p : Program) (e : Env) (s : State) (m : MethodId) (args : Array Value) (below : List Frame) (meth : Method) (c : Code), Ctx E M p s m args meth c →
  ∀ (H : Heap) (locs : List Loc) (lc : Array Slot), Hld E n I J R H → va_S (fun q => eB E ≤ q) s.heap H locs → LV E (mL M) ls lc →
  W p (eL E) e (rmM d M) s m args below meth c H locs cs sl (QM E M Post below args s) (F0 m pc lc (st.map (cv E)))
def Cal (E : En) (d : Nat) (M : Mt) (as : List Value) (n : Nat) (I : TI) (J : TJ) (R : TR) (Post : PT) : Prop :=
  Met (eL E) (mY M) [.code (mY M) (mC M) (mL M) (mR M)] (rmM d M) (PcE E as n I J R) (QcE E Post) (mc_ M) (ms_ M) (fun q => eB E ≤ q)
