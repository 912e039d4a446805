/-! The engine's rules that read and write cells, that make them, calls and returns. -/
theorem X_hts {E : En} {s : State} (h : Stt E s) (a : Array Value) : ∀ w ∈ TB, w.before a s = true := fun w hw => h.2 w (List.mem_filter.mp hw).1 (List.mem_filter.mp hw).2 a
theorem cel_obj {E : En} {I : TI} {J : TJ} {R : TR} {k ci : Nat} (h : shp k = .inr ci) : cel E I J R k = .inr (ci, fl E I J R k ci) := by
  unfold cel
  rw [h]
theorem cel_int {E : En} {I : TI} {J : TJ} {R : TR} {k n : Nat} (h : shp k = .inl (0, n)) : cel E I J R k = .inl ((eA E).1, n, .inl (I k)) := by
  unfold cel
  rw [h]
  rfl
theorem cel_byte {E : En} {I : TI} {J : TJ} {R : TR} {k n : Nat} (h : shp k = .inl (1, n)) : cel E I J R k = .inl ((eA E).2.1, n, .inl (I k)) := by
  unfold cel
  rw [h]
  rfl
theorem cel_long {E : En} {I : TI} {J : TJ} {R : TR} {k n : Nat} (h : shp k = .inl (2, n)) : cel E I J R k = .inl ((eA E).2.2, n, .inr (.inl (J k))) := by
  unfold cel
  rw [h]
  rfl
theorem fl_at {E : En} {I : TI} {J : TJ} {R : TR} {k ci s : Nat} (h : s < (fk ci).length) : (fl E I J R k ci)[s]? = some (fvl E I J R k s ((fk ci).getD s 0)) := by
  simp [fl, h]
theorem fl_len {E : En} {I : TI} {J : TJ} {R : TR} {k ci : Nat} : (fl E I J R k ci).length = (fk ci).length := by simp [fl]
theorem fl_set {E : En} {I I' : TI} {J J' : TJ} {R R' : TR} {k ci s : Nat} {v : Value} (h : s < (fk ci).length) (hv : v = fvl E I' J' R' k s ((fk ci).getD s 0)) (ho : ∀ t, t ≠ s → fvl E I' J' R' k t ((fk ci).getD t 0) = fvl E I J R k t ((fk ci).getD t 0)) : (fl E I J R k ci).set s v = fl E I' J' R' k ci := by
  apply List.ext_getElem?
  intro i
  by_cases hi : i = s
  · subst hi
    rw [List.getElem?_set_self (by rw [fl_len]; exact h), fl_at h, hv]
  · rw [List.getElem?_set_ne (Ne.symm hi)]
    by_cases hl : i < (fk ci).length
    · rw [fl_at hl, fl_at hl, ho i hi]
    · rw [List.getElem?_eq_none (by rw [fl_len]; omega), List.getElem?_eq_none (by rw [fl_len]; omega)]
def at_ (n k : Nat) (x : Sh) : Prop := k < n ∧ shp k = x
section
variable {E : En} {d : Nat} {M : Mt} {Post : PT} {pc : Nat} {ls : List (Option Value)} {st : List Value} {n cs sl : Nat} {I : TI} {J : TJ} {R : TR}
theorem V_getG {idx ci s k kd : Nat} {fin : Bool} {t : FieldType} {v : Value} (hd : decode (mC M) pc = .ok (.getfield idx, 3)) (hf : FL (mY M).cls idx ci s kd fin t) (hk : at_ n k (.inr ci)) (hv : fvl E I J R k s kd = cv E v) (kk : V E d M Post (pc + 3) ls (v :: st) n cs sl I J R) : V E d M Post pc ls (.ref k :: st) n cs sl I J R := by
  intro p e s0 m args below meth c X H locs lc hH hS hL
  obtain ⟨C, T, N, ty, ⟨c1, c2, c3, c4, c5⟩, hs, hkd, hl, -, -, -⟩ := hf
  have c3 := ulay_TB c3
  refine va_get (D := eD E) (ws := wld E n I J R) (a := eB E + k) X.1 X.2.1 (X_hts X.2.2.2.2.2.2.2.1 args) c3 X.2.2.2.2.1 X.2.2.2.2.2.2.2.1.1 hH.1 k (by rw [wld_at E I J R hk.1, cel_obj hk.2]) c1 s hs (X.2.2.2.2.2.2.2.1.2 _ hl rfl args) (fun _ h => h) (v := cv E v) ?_ hd (kk p e s0 m args below meth c X H locs lc hH hS hL)
  rw [fl_at (by rw [c2]; exact hs), hkd, hv]
theorem V_getI {idx ci s k : Nat} {fin : Bool} {t : FieldType} (hd : decode (mC M) pc = .ok (.getfield idx, 3)) (hf : FL (mY M).cls idx ci s 0 fin t) (hk : at_ n k (.inr ci)) (kk : V E d M Post (pc + 3) ls (.int (I k s) :: st) n cs sl I J R) : V E d M Post pc ls (.ref k :: st) n cs sl I J R := V_getG hd hf hk rfl kk
theorem V_getJ {idx ci s k : Nat} {fin : Bool} {t : FieldType} (hd : decode (mC M) pc = .ok (.getfield idx, 3)) (hf : FL (mY M).cls idx ci s 1 fin t) (hk : at_ n k (.inr ci)) (kk : V E d M Post (pc + 3) ls (.long (J k s) :: st) n cs sl I J R) : V E d M Post pc ls (.ref k :: st) n cs sl I J R := V_getG hd hf hk rfl kk
theorem V_getR {idx ci s k q : Nat} {fin : Bool} {t : FieldType} (hd : decode (mC M) pc = .ok (.getfield idx, 3)) (hf : FL (mY M).cls idx ci s 2 fin t) (hk : at_ n k (.inr ci)) (hR : R k s = some q) (kk : V E d M Post (pc + 3) ls (.ref q :: st) n cs sl I J R) : V E d M Post pc ls (.ref k :: st) n cs sl I J R := V_getG hd hf hk (by show rv E (R k s) = _; rw [hR]; rfl) kk
theorem V_putG {idx ci s k kd : Nat} {fin : Bool} {t : FieldType} {v : Value} {I' : TI} {J' : TJ} {R' : TR} (hd : decode (mC M) pc = .ok (.putfield idx, 3)) (hf : FL (mY M).cls idx ci s kd fin t) (hfn : fin = false ∨ (mY M).name = "<init>" ∧ (mY M).cls = (vwCl.getD ci ("", fun _ => ("", "", "", false), 0)).1) (hk : at_ n k (.inr ci)) (hn : narrow t (cv E v) = cv E v) (hfit : fits t (cv E v) = true) (hv : cv E v = fvl E I' J' R' k s kd) (ho : ∀ u, u ≠ s → ∀ kd', fvl E I' J' R' k u kd' = fvl E I J R k u kd') (hc : ∀ j, j ≠ k → cel E I' J' R' j = cel E I J R j) (kk : V E d M Post (pc + 3) ls st n cs sl I' J' R') : V E d M Post pc ls (v :: .ref k :: st) n cs sl I J R := by
  intro p e s0 m args below meth c X H locs lc hH hS hL
  obtain ⟨C, T, N, ty, ⟨c1, c2, c3, c4, c5⟩, hs, hkd, hl, hfin, hty, hdec⟩ := hf
  have c3 := ulay_TB c3
  obtain ⟨hx, hb, hml, hr, hown, hlk, hnm, hst0, hbs, -⟩ := id X
  have he : (wld E n I J R)[k]? = some (eB E + k, .inr (ci, fl E I J R k ci)) := by rw [wld_at E I J R hk.1, cel_obj hk.2]
  obtain ⟨r, h1, cell, q1, q2, q3, q4⟩ := hH.1 k _ he
  obtain rfl : r = (C, T, N) := Option.some.inj (h1.symm.trans c1)
  obtain ⟨hSl, hfc, kC, hkC, hkind⟩ := hst0.1.1 ci _ c1
  obtain ⟨cf, kf, fi, f, hi, hsl⟩ := hSl s hs
  have hts := X_hts hst0 args
  have hst := (u_facts hfc hkC (u_lays hts c3 hs) hi).1
  have hap := va_apart (own := C) hts c3 ty c4 c5 hst0.1 c1
  have hdt : parseFieldDescriptor (T s).2.2.1 = some t := by rw [c4 s hs, hty]
  have hlen : s < (fl E I J R k ci).length := by rw [fl_len, c2]; exact hs
  have fin_ : ∀ H' : Heap, H'[eB E + k]? = some (cell.setSlot f.slot (cv E v)) → H'.size = H.size → (∀ q, q ≠ eB E + k → H'[q]? = H[q]?) → W p (eL E) e (rmM d M) s0 m args below meth c H' (locs ++ [⟨eB E + k, f.slot⟩]) cs sl (QM E M Post below args s0) (F0 m (pc + 3) lc (st.map (cv E))) := by
    intro H' e1 e2 e3
    rw [hsl] at e1 ⊢
    have hP := hH.1.set (wld_D E n I J R) he (e := .inr (ci, (fl E I J R k ci).set s (cv E v))) ⟨_, c1, t_OB.to (V := updV (vp_V (fl E I J R k ci)) s (cv E v)) ⟨_, e1, q2, q3, t_set q4 hap hs (cv E v)⟩ (fun j _ => vp_updV_set hlen (cv E v) j)⟩ e3
    have e4 : (wld E n I J R).set k (eB E + k, .inr (ci, (fl E I J R k ci).set s (cv E v))) = wld E n I' J' R' := by
      refine wld_set E hk.1 ?_ hc
      rw [cel_obj hk.2, fl_set (I' := I') (J' := J') (R' := R') (by rw [c2]; exact hs) (by rw [hkd]; exact hv) (fun u hu => ho u hu _)]
    rw [e4] at hP
    exact kk p e s0 m args below meth c X H' _ lc ⟨hP, by rw [e2]; exact hH.2⟩ (hS.put e2 e3 (Nat.le_add_right _ _)) hL
  have hlay := hts _ (c3 _ (u_in_lay hs))
  unfold u_lay at hlay
  by_cases hq : fin = false
  · rw [if_neg (by rw [hfin, hq]; decide)] at hlay
    exact W.putK hx hb (f := f) ⟨hown, hst0.2 _ hl rfl args, ⟨_, _, _, hi⟩, hst⟩ (by rw [q2]; exact u_store hfc hkC hkind hlay hi hdt hn hfit) q1 q3 (by rw [hsl]; exact k2_hasslot (q4 s hs)) rfl rfl hd fin_
  · rcases hfn with h | ⟨hin, hcn⟩
    · exact absurd h hq
    · have hft : fin = true := by cases fin <;> simp_all
      rw [if_pos (by rw [hfin, hft])] at hlay
      have hC : (mY M).cls = C := by
        rw [hcn, List.getD_eq_getElem?_getD, c1]
        rfl
      have hcf : m.cls = cf := by
        obtain ⟨_, _, c', _, _, _, -, -, hf', -, -, -, hown2, -⟩ := Cond.laysFinal_spec hlay
        have e1 : c' = cf := by have := hi.symm.trans hf'; simp at this; exact this.1.symm
        rw [hdec, ← hC] at hown2
        rw [← e1]; exact Option.some.inj (hown.symm.trans hown2)
      exact W.putFinK hx hb hown (hst0.2 _ hl rfl args) hi hst hcf (by rw [hnm]; exact hin) (by rw [q2]; exact u_fits hfc hkC hkind (Or.inr hlay) hi hdt hn hfit) q1 q3 (by rw [hsl]; exact k2_hasslot (q4 s hs)) rfl rfl hd fin_
theorem fvl_I {E : En} {I : TI} {J : TJ} {R : TR} {k s u kd : Nat} {v : Int32} (h : u ≠ s) : fvl E (up2 I k s v) J R k u kd = fvl E I J R k u kd := by
  unfold fvl
  split <;> first | rfl | simp [up2, h]
theorem fvl_J {E : En} {I : TI} {J : TJ} {R : TR} {k s u kd : Nat} {v : Int64} (h : u ≠ s) : fvl E I (up2 J k s v) R k u kd = fvl E I J R k u kd := by
  unfold fvl
  split <;> first | rfl | simp [up2, h]
theorem fvl_R {E : En} {I : TI} {J : TJ} {R : TR} {k s u kd : Nat} {v : Option Nat} (h : u ≠ s) : fvl E I J (up2 R k s v) k u kd = fvl E I J R k u kd := by
  unfold fvl
  split <;> first | rfl | simp [up2, h]
theorem V_putI {idx ci s k : Nat} {x : Int32} (hd : decode (mC M) pc = .ok (.putfield idx, 3)) (hf : FL (mY M).cls idx ci s 0 false .int) (hk : at_ n k (.inr ci)) (kk : V E d M Post (pc + 3) ls st n cs sl (up2 I k s x) J R) : V E d M Post pc ls (.int x :: .ref k :: st) n cs sl I J R := V_putG hd hf (Or.inl rfl) hk rfl rfl (by show _ = Value.int (up2 I k s x k s); rw [up2_self]; rfl) (fun u hu kd' => fvl_I hu) (fun j hj => cel_I hj) kk
theorem V_putZ {idx ci s k : Nat} {x : Int32} (hd : decode (mC M) pc = .ok (.putfield idx, 3)) (hf : FL (mY M).cls idx ci s 0 false .boolean) (hk : at_ n k (.inr ci)) (hx : x = 0 ∨ x = 1) (kk : V E d M Post (pc + 3) ls st n cs sl (up2 I k s x) J R) : V E d M Post pc ls (.int x :: .ref k :: st) n cs sl I J R := V_putG hd hf (Or.inl rfl) hk (by rcases hx with rfl | rfl <;> rfl) (by rcases hx with rfl | rfl <;> rfl) (by show _ = Value.int (up2 I k s x k s); rw [up2_self]; rfl) (fun u hu kd' => fvl_I hu) (fun j hj => cel_I hj) kk
theorem V_putJ {idx ci s k : Nat} {x : Int64} (hd : decode (mC M) pc = .ok (.putfield idx, 3)) (hf : FL (mY M).cls idx ci s 1 false .long) (hk : at_ n k (.inr ci)) (kk : V E d M Post (pc + 3) ls st n cs sl I (up2 J k s x) R) : V E d M Post pc ls (.long x :: .ref k :: st) n cs sl I J R := V_putG hd hf (Or.inl rfl) hk rfl rfl (by show _ = Value.long (up2 J k s x k s); rw [up2_self]; rfl) (fun u hu kd' => fvl_J hu) (fun j hj => cel_J hj) kk
theorem V_putR {idx ci s k q : Nat} {nm : String} (hd : decode (mC M) pc = .ok (.putfield idx, 3)) (hf : FL (mY M).cls idx ci s 2 false (.object nm)) (hk : at_ n k (.inr ci)) (kk : V E d M Post (pc + 3) ls st n cs sl I J (up2 R k s (some q))) : V E d M Post pc ls (.ref q :: .ref k :: st) n cs sl I J R := V_putG hd hf (Or.inl rfl) hk rfl rfl (by show _ = rv E (up2 R k s (some q) k s); rw [up2_self]; rfl) (fun u hu kd' => fvl_R hu) (fun j hj => cel_R hj) kk
theorem V_putF {idx ci s k q : Nat} {fin : Bool} {t : FieldType} (hd : decode (mC M) pc = .ok (.putfield idx, 3)) (hf : FL (mY M).cls idx ci s 2 fin t) (hfn : fin = false ∨ (mY M).name = "<init>" ∧ (mY M).cls = (vwCl.getD ci ("", fun _ => ("", "", "", false), 0)).1) (ht : (∃ nm, t = .object nm) ∨ ∃ u, t = .array u) (hk : at_ n k (.inr ci)) (kk : V E d M Post (pc + 3) ls st n cs sl I J (up2 R k s (some q))) : V E d M Post pc ls (.ref q :: .ref k :: st) n cs sl I J R := V_putG hd hf hfn hk (by rcases ht with ⟨nm, rfl⟩ | ⟨u, rfl⟩ <;> rfl) (by rcases ht with ⟨nm, rfl⟩ | ⟨u, rfl⟩ <;> rfl) (by show _ = rv E (up2 R k s (some q) k s); rw [up2_self]; rfl) (fun u hu kd' => fvl_R hu) (fun j hj => cel_R hj) kk
-- arrays
theorem V_iaload {k len : Nat} {i : Int32} (hd : decode (mC M) pc = .ok (.iaload, 1)) (hk : at_ n k (.inl (0, len))) (hin : vp_in i len) (kk : V E d M Post (pc + 1) ls (.int (I k i.toNatClampNeg) :: st) n cs sl I J R) : V E d M Post pc ls (.int i :: .ref k :: st) n cs sl I J R := fun p e s m args below meth c X H locs lc hH hS hL => va_iald (ws := wld E n I J R) (a := eB E + k) X.1 X.2.1 X.2.2.2.2.2.2.2.1.1 hH.1 k 0 (by rw [wld_at E I J R hk.1, cel_int hk.2]) rfl hin hd (kk p e s m args below meth c X H locs lc hH hS hL)
theorem V_baload {k len : Nat} {i : Int32} (hd : decode (mC M) pc = .ok (.baload, 1)) (hk : at_ n k (.inl (1, len))) (hin : vp_in i len) (kk : V E d M Post (pc + 1) ls (.int (I k i.toNatClampNeg) :: st) n cs sl I J R) : V E d M Post pc ls (.int i :: .ref k :: st) n cs sl I J R := fun p e s m args below meth c X H locs lc hH hS hL => va_bald (ws := wld E n I J R) (a := eB E + k) X.1 X.2.1 X.2.2.2.2.2.2.2.1.1 hH.1 k 1 (by rw [wld_at E I J R hk.1, cel_byte hk.2]) rfl hin hd (kk p e s m args below meth c X H locs lc hH hS hL)
theorem V_laload {k len : Nat} {i : Int32} (hd : decode (mC M) pc = .ok (.laload, 1)) (hk : at_ n k (.inl (2, len))) (hin : vp_in i len) (kk : V E d M Post (pc + 1) ls (.long (J k i.toNatClampNeg) :: st) n cs sl I J R) : V E d M Post pc ls (.int i :: .ref k :: st) n cs sl I J R := fun p e s m args below meth c X H locs lc hH hS hL => va_lald (ws := wld E n I J R) (a := eB E + k) X.1 X.2.1 X.2.2.2.2.2.2.2.1.1 hH.1 k 2 (by rw [wld_at E I J R hk.1, cel_long hk.2]) rfl hin hd (kk p e s m args below meth c X H locs lc hH hS hL)
theorem V_alen {k kd len : Nat} {v : Int32} (hd : decode (mC M) pc = .ok (.arraylength, 1)) (hk : at_ n k (.inl (kd, len))) (hv : Int32.ofNat len = v) (kk : V E d M Post (pc + 1) ls (.int v :: st) n cs sl I J R) : V E d M Post pc ls (.ref k :: st) n cs sl I J R := by
  intro p e s m args below meth c X H locs lc hH hS hL
  have hw := wld_at E I J R hk.1
  have h3 := kk p e s m args below meth c X H locs lc hH hS hL
  unfold cel at hw
  rw [hk.2] at hw
  match kd, hk, hw with
  | 0, hk, hw => exact va_alen (ws := wld E n I J R) (a := eB E + k) X.1 X.2.1 X.2.2.2.2.2.2.2.1.1 hH.1 k 0 hw (ty := .int) rfl hv hd h3
  | 1, hk, hw => exact va_alen (ws := wld E n I J R) (a := eB E + k) X.1 X.2.1 X.2.2.2.2.2.2.2.1.1 hH.1 k 1 hw (ty := .byte) rfl hv hd h3
  | kd + 2, hk, hw => exact va_alen (ws := wld E n I J R) (a := eB E + k) X.1 X.2.1 X.2.2.2.2.2.2.2.1.1 hH.1 k 2 hw (ty := .long) rfl hv hd h3
theorem V_iastore {k len : Nat} {i x : Int32} (hd : decode (mC M) pc = .ok (.iastore, 1)) (hk : at_ n k (.inl (0, len))) (hin : vp_in i len) (kk : V E d M Post (pc + 1) ls st n cs sl (up2 I k i.toNatClampNeg x) J R) : V E d M Post pc ls (.int x :: .int i :: .ref k :: st) n cs sl I J R := by
  intro p e s m args below meth c X H locs lc hH hS hL
  have he : (wld E n I J R)[k]? = some (eB E + k, .inl ((eA E).1, len, .inl (I k))) := by rw [wld_at E I J R hk.1, cel_int hk.2]
  refine W.iast (a := eB E + k) X.1 X.2.1 (hH.1 k _ he) ((X.2.2.2.2.2.2.2.1.1.2 0 _ rfl).1 len (fun j => .int (I k j))) (fun q => by cases q) (by show ¬ (i < 0 ∨ (arrV _ _ _).slots.size ≤ _); rw [arrV_size]; exact hin) rfl rfl hd fun H1 e1 z oq => ?_
  have hP := hH.1.set (wld_D E n I J R) he (e := cel E (up2 I k i.toNatClampNeg x) J R k) (by
    rw [cel_int hk.2]
    show H1[eB E + k]? = some (vp_cell _ _)
    rw [e1, vp_cell_i, vp_cell_i, arrV_store]
    congr 2
    funext q
    by_cases hq : q = i.toNatClampNeg
    · subst hq
      simp [updV, up2]
    · simp [updV, up2, hq]) oq
  rw [wld_set E hk.1 rfl (fun j hj => cel_I hj)] at hP
  exact kk p e s m args below meth c X H1 _ lc ⟨hP, by rw [z]; exact hH.2⟩ (hS.put z oq (Nat.le_add_right _ _)) hL
theorem V_bastore {k len : Nat} {i x : Int32} (hd : decode (mC M) pc = .ok (.bastore, 1)) (hk : at_ n k (.inl (1, len))) (hin : vp_in i len) (kk : V E d M Post (pc + 1) ls st n cs sl (up2 I k i.toNatClampNeg x.toInt8.toInt32) J R) : V E d M Post pc ls (.int x :: .int i :: .ref k :: st) n cs sl I J R := by
  intro p e s m args below meth c X H locs lc hH hS hL
  have he : (wld E n I J R)[k]? = some (eB E + k, .inl ((eA E).2.1, len, .inl (I k))) := by rw [wld_at E I J R hk.1, cel_byte hk.2]
  refine W.bast (a := eB E + k) X.1 X.2.1 (hH.1 k _ he) ((X.2.2.2.2.2.2.2.1.1.2 1 _ rfl).1 len (fun j => .int (I k j))) (fun q => by cases q) (by show ¬ (i < 0 ∨ (arrV _ _ _).slots.size ≤ _); rw [arrV_size]; exact hin) rfl rfl hd fun H1 e1 z oq => ?_
  have hP := hH.1.set (wld_D E n I J R) he (e := cel E (up2 I k i.toNatClampNeg x.toInt8.toInt32) J R k) (by
    rw [cel_byte hk.2]
    show H1[eB E + k]? = some (vp_cell _ _)
    rw [e1, vp_cell_i, vp_cell_i, arrV_store]
    congr 2
    funext q
    by_cases hq : q = i.toNatClampNeg
    · subst hq
      simp [updV, up2, narrow]
    · simp [updV, up2, hq]) oq
  rw [wld_set E hk.1 rfl (fun j hj => cel_I hj)] at hP
  exact kk p e s m args below meth c X H1 _ lc ⟨hP, by rw [z]; exact hH.2⟩ (hS.put z oq (Nat.le_add_right _ _)) hL
theorem V_lastore {k len : Nat} {i : Int32} {x : Int64} (hd : decode (mC M) pc = .ok (.lastore, 1)) (hk : at_ n k (.inl (2, len))) (hin : vp_in i len) (kk : V E d M Post (pc + 1) ls st n cs sl I (up2 J k i.toNatClampNeg x) R) : V E d M Post pc ls (.long x :: .int i :: .ref k :: st) n cs sl I J R := by
  intro p e s m args below meth c X H locs lc hH hS hL
  have he : (wld E n I J R)[k]? = some (eB E + k, .inl ((eA E).2.2, len, .inr (.inl (J k)))) := by rw [wld_at E I J R hk.1, cel_long hk.2]
  refine W.last (a := eB E + k) X.1 X.2.1 (hH.1 k _ he) ((X.2.2.2.2.2.2.2.1.1.2 2 _ rfl).1 len (fun j => .long (J k j))) (fun q => by cases q) (by show ¬ (i < 0 ∨ (arrV _ _ _).slots.size ≤ _); rw [arrV_size]; exact hin) rfl rfl hd fun H1 e1 z oq => ?_
  have hP := hH.1.set (wld_D E n I J R) he (e := cel E I (up2 J k i.toNatClampNeg x) R k) (by
    rw [cel_long hk.2]
    show H1[eB E + k]? = some (vp_cell _ _)
    rw [e1, vp_cell_l, vp_cell_l, arrV_store]
    congr 2
    funext q
    by_cases hq : q = i.toNatClampNeg
    · subst hq
      simp [updV, up2]
    · simp [updV, up2, hq]) oq
  rw [wld_set E hk.1 rfl (fun j hj => cel_J hj)] at hP
  exact kk p e s m args below meth c X H1 _ lc ⟨hP, by rw [z]; exact hH.2⟩ (hS.put z oq (Nat.le_add_right _ _)) hL
end
