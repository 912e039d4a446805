/-! The engine's rules: makings, calls, returns; a contract out of a walk. -/
theorem wld_push (E : En) (n : Nat) (I : TI) (J : TJ) (R : TR) : wld E (n + 1) I J R = wld E n I J R ++ [(eB E + n, cel E I J R n)] := by
  simp [wld, List.range_succ]
section
variable {E : En} {d : Nat} {M : Mt} {Post : PT} {pc : Nat} {ls : List (Option Value)} {st : List Value} {n cs sl : Nat} {I : TI} {J : TJ} {R : TR}
theorem hld_push {H H1 : Heap} (hH : Hld E n I J R H) (z : H1.size = eB E + n + 1) (o : ∀ q, q < eB E + n → H1[q]? = H[q]?) (hc : va_at (eD E) vwCl (eB E + n, cel E I J R n) H1) : Hld E (n + 1) I J R H1 := by
  refine ⟨?_, by omega⟩
  rw [wld_push]
  refine va_P.app (hH.1.kept (fun k q hq => o q.1 ?_)) ?_
  · have := (hH.1 k q hq).lt
    have h2 := hH.2
    omega
  · intro k q hk
    have hz : k < 1 := (List.getElem?_eq_some_iff.mp hk).1
    rw [show k = 0 by omega] at hk
    cases hk
    exact hc
theorem V_newarray {kd len : Nat} {i : Int32} {aty : ArrayType} (hd : decode (mC M) pc = .ok (.newarray aty, 2)) (ha : (kd = 0 ∧ aty = .int) ∨ (kd = 1 ∧ aty = .byte) ∨ (kd = 2 ∧ aty = .long)) (hs : shp n = .inl (kd, len)) (hi : ¬ i < 0) (hl : i.toNatClampNeg = len) (hb : len ≤ 10000) (h1 : cs + 1 ≤ mc_ M) (h2 : sl + len ≤ ms_ M) (hI : ∀ s, I n s = 0) (hJ : ∀ s, J n s = 0) (kk : V E d M Post (pc + 2) ls (.ref n :: st) (n + 1) (cs + 1) (sl + len) I J R) : V E d M Post pc ls (.int i :: st) n cs sl I J R := by
  intro p e s m args below meth c X H locs lc hH hS hL
  have hK := X.2.2.2.2.2.2.2.1.1
  have fin : ∀ (ty : FieldType) (cA : ClassId) (H' : Heap), H'.size = eB E + n + 1 → (∀ q, q < eB E + n → H'[q]? = H[q]?) → va_at (eD E) vwCl (eB E + n, cel E I J R n) H' → W p (eL E) e (rmM d M) s m args below meth c H' locs (cs + 1) (sl + len) (QM E M Post below args s) (F0 m (pc + 2) lc ((.ref n :: st).map (cv E))) := by
    intro ty cA H' z o hc
    refine kk p e s m args below meth c X H' locs lc (hld_push hH z o hc) ⟨?_, fun q q1 q2 => ?_, hS.2.2⟩ hL
    · have := hS.1; have := hH.2; omega
    · rw [o q (by have := hS.1; have := hH.2; omega)]; exact hS.2.1 q q1 q2
  rcases ha with ⟨rfl, rfl⟩ | ⟨rfl, rfl⟩ | ⟨rfl, rfl⟩
  · refine va_newaK (atype := .int) X.1 X.2.1 (X.2.2.2.2.2.2.2.1.2 _ ac_int rfl args) (g := F0 m pc lc (.int i :: st.map (cv E))) rfl hd rfl hi hl (by show len * _ ≤ _; have : componentBytes (newarray.typeOf .int) = 4 := rfl; rw [this]; omega) h1 h2 hH.2 fun H' cA e1 z o hA hfc => fin .int cA H' z o ?_
    have hcA : cA = (eA E).1 := Option.some.inj (hfc.symm.trans (hK.2 0 _ rfl).2)
    rw [cel_int hs]
    show H'[eB E + n]? = some (vp_cell _ _)
    rw [e1, vp_cell_i, hcA, show I n = fun _ => 0 from funext hI]
    rfl
  · refine va_newaK (atype := .byte) X.1 X.2.1 (X.2.2.2.2.2.2.2.1.2 _ ac_byte rfl args) (g := F0 m pc lc (.int i :: st.map (cv E))) rfl hd rfl hi hl (by show len * _ ≤ _; have : componentBytes (newarray.typeOf .byte) = 1 := rfl; rw [this]; omega) h1 h2 hH.2 fun H' cA e1 z o hA hfc => fin .byte cA H' z o ?_
    have hcA : cA = (eA E).2.1 := Option.some.inj (hfc.symm.trans (hK.2 1 _ rfl).2)
    rw [cel_byte hs]
    show H'[eB E + n]? = some (vp_cell _ _)
    rw [e1, vp_cell_i, hcA, show I n = fun _ => 0 from funext hI]
    rfl
  · refine va_newaK (atype := .long) X.1 X.2.1 (X.2.2.2.2.2.2.2.1.2 _ ac_long rfl args) (g := F0 m pc lc (.int i :: st.map (cv E))) rfl hd rfl hi hl (by show len * _ ≤ _; have : componentBytes (newarray.typeOf .long) = 8 := rfl; rw [this]; omega) h1 h2 hH.2 fun H' cA e1 z o hA hfc => fin .long cA H' z o ?_
    have hcA : cA = (eA E).2.2 := Option.some.inj (hfc.symm.trans (hK.2 2 _ rfl).2)
    rw [cel_long hs]
    show H'[eB E + n]? = some (vp_cell _ _)
    rw [e1, vp_cell_l, hcA, show J n = fun _ => 0 from funext hJ]
    rfl
theorem V_new {idx ci N : Nat} (hd : decode (mC M) pc = .ok (.new idx, 3)) (hw : NW (mY M).cls idx ci) (hN : (fk ci).length = N) (hs : shp n = .inr ci) (h1 : cs + 1 ≤ mc_ M) (h2 : sl + N ≤ ms_ M) (hI : ∀ s, I n s = 0) (hJ : ∀ s, J n s = 0) (hR : ∀ s, R n s = none) (kk : V E d M Post (pc + 3) ls (.ref n :: st) (n + 1) (cs + 1) (sl + N) I J R) : V E d M Post pc ls st n cs sl I J R := by
  intro p e s m args below meth c X H locs lc hH hS hL
  obtain ⟨C, T, N', ty, ⟨c1, c2, c3, c4, c5⟩, w1, w2, w3, w4⟩ := hw
  have c3 := ulay_TB c3
  obtain rfl : N' = N := c2.symm.trans hN
  have hst := X.2.2.2.2.2.2.2.1
  have hts := X_hts hst args
  have hKn := hst.1.1 ci _ c1
  refine W.newcK X.1 X.2.1 X.2.2.2.2.1 (hst.2 _ w1 rfl args) (hst.2 _ w2 rfl args) (hst.2 _ w3 rfl args) (g := F0 m pc lc (st.map (cv E))) rfl hd h1 h2 hKn.2.1 hH.2 fun H' kC hkC e1 z o => ?_
  refine kk p e s m args below meth c X H' locs lc (hld_push hH z o ?_) ⟨?_, fun q q1 q2 => ?_, hS.2.2⟩ hL
  · rw [cel_obj hs]
    refine ⟨_, c1, (u_born ty hts c3 hKn hkC e1 c4).to (fun k hk => ?_)⟩
    have hk' : k < (fk ci).length := by rw [c2]; exact hk
    show defaultValue (ty k) = vp_V (fl E I J R n ci) k
    unfold vp_V
    rw [List.getD_eq_getElem?_getD, fl_at hk']
    rcases w4 k hk with ⟨a, b⟩ | ⟨a, b⟩ | ⟨a, b⟩
    · rw [a, b]; show _ = Value.int (I n k); rw [hI]
    · rw [a, b]; show _ = Value.long (J n k); rw [hJ]
    · rw [a, b]; show _ = rv E (R n k); rw [hR]; rfl
  · have := hS.1; have := hH.2; omega
  · rw [o q (by have := hS.1; have := hH.2; omega)]; exact hS.2.1 q q1 q2
theorem V_objInit {idx k : Nat} (hd : decode (mC M) pc = .ok (.invokespecial idx, 3)) (hl : Cond.methodLink (mY M).cls idx objectInit ∈ lw_tbl) (h1 : 1 ≤ d) (h2 : (st.map fun v => v.category).sum ≤ 8) (kk : V E d M Post (pc + 3) ls st n cs sl I J R) : V E d M Post pc ls (.ref k :: st) n cs sl I J R := by
  intro p e s m args below meth c X H locs lc hH hS hL
  have hst := X.2.2.2.2.2.2.2.1
  refine W.objInit X.1 X.2.1 X.2.2.2.2.1 (hst.2 _ hl rfl args) (hst.2 _ oi_i rfl args) (hst.2 _ oi_c rfl args) (g := F0 m pc lc (.ref (eB E + k) :: st.map (cv E))) rfl (by rw [X.2.2.1]; exact hL.1) rfl hd h1 ?_ (kk p e s m args below meth c X H locs lc hH hS hL)
  show 2 * 0 + _ + 12 ≤ 41 * d + 32
  have e1 : ((st.map (cv E)).map fun v => v.category) = st.map fun v => v.category := by rw [List.map_map]; exact List.map_congr_left (fun v _ => cv_cat E v)
  rw [e1]
  omega
theorem cat_map (E : En) (st : List Value) : ((st.map (cv E)).map fun v => v.category) = st.map fun v => v.category := by rw [List.map_map]; exact List.map_congr_left (fun v _ => cv_cat E v)
/-- behind a call: whatever the callee's end says -/
theorem W_call {p : Program} {e : Env} {s : State} {m : MethodId} {args : Array Value} {below : List Frame} {meth : Method} {c : Code} (X : Ctx E M p s m args meth c) {H : Heap} {locs : List Loc} {lc : Array Slot} {st0 rest : List Value} {mc ms : Nat} {a : Array Value} {Pq : PT} (hS : va_S (fun q => eB E ≤ q) s.heap H locs) (hL : LV E (mL M) ls lc)
    (hr : va_Run p (eL E) e (rmM d M) s m args below meth c H locs cs sl mc ms (F0 m pc lc st0) (rest.map (cv E)) (QcE E Pq a) (fun q => eB E ≤ q))
    (hk : ∀ v n' I' J' R', Pq v n' I' J' R' → V E d M Post (pc + 3) ls (v.toList ++ rest) n' (cs + mc) (sl + ms) I' J' R') : W p (eL E) e (rmM d M) s m args below meth c H locs cs sl (QM E M Post below args s) (F0 m pc lc st0) := by
  intro T hT Xs
  obtain ⟨v, st₀, t, T', L, h0, X', hLo, e1, e2, ⟨w, n', I', J', R', hv, hp, hH', hz, hu⟩, stp⟩ := hr T hT Xs
  cases hv
  rw [h0] at hz hu
  have hK := hk w n' I' J' R' hp p e s m args below meth c X T'.heap (locs ++ L) lc (by rw [e1]; exact hH') ⟨Nat.le_trans hS.1 (by rw [e1]; exact hz), fun q h1 h2 => by
      rw [e1, hu q (Nat.not_le.mp h2)]
      exact hS.2.1 q h1 h2, fun q hq => by
      rcases List.mem_append.mp hq with h | h
      · exact hS.2.2 q h
      · exact hLo q h⟩ hL
  have e3 : (w.toList ++ rest).map (cv E) = (w.map (cv E)).toList ++ rest.map (cv E) := by cases w <;> rfl
  rw [e3] at hK
  obtain ⟨t2, a1, b1⟩ := hK T' rfl X'
  exact ⟨t2, stp t2 a1, b1⟩
theorem blind {as : List Value} : FrameBlind (PcE E as n I J R) := fun a U g mk h => ⟨h.1, h.2.1, h.2.2.mv (U := U.calling g mk a) (State.WarmedH.refl U)⟩
def nPar (y : MethodName) (k : Nat) : Prop := (parseMethodDescriptor y.desc).map (fun d => d.parameters.length) = some k
theorem cbOf {M' : Mt} {d' k : Nat} {s : State} {args : Array Value} (hst : Stt E s) (hkn : KnC (mY M') (mC M') (mL M') (mR M')) (hp : nPar (mY M') k) (hd : d' + 1 ≤ d) : (rmM d' M').cells = mc_ M' ∧ (rmM d' M').slots = ms_ M' ∧ (rmM d' M').frames + 1 ≤ (rmM d M).frames ∧ 8 + (mL M' + 11) + (rmM d' M').locals ≤ (rmM d M).locals ∧ (∀ w ∈ [Cond.code (mY M') (mC M') (mL M') (mR M')], ∀ (a' : Array Value) (U : State), s.WarmedH U.vm → w.before a' U = true) ∧ Cond.code (mY M') (mC M') (mL M') (mR M') ∈ [Cond.code (mY M') (mC M') (mL M') (mR M')] ∧
  (Cond.code (mY M') (mC M') (mL M') (mR M')).before args s = true ∧ (Cond.initialized (mY M').cls).before args s = true ∧ ((mY M').cls ≠ "java/lang/invoke/MethodHandle" ∧ (mY M').cls ≠ "java/lang/invoke/VarHandle") ∧ (∀ sig, parseMethodDescriptor (mY M').desc = some sig → k = sig.parameters.length) := by
  obtain ⟨k1, k2, k3, k4, -⟩ := hkn
  refine ⟨rfl, rfl, hd, ?_, fun w hw a' U hW => ?_, List.mem_cons_self, hst.2 _ k1 rfl _, hst.2 _ k2 rfl _, k3, fun sig h => ?_⟩
  · show 8 + (mL M' + 11) + (41 * d' + 32) ≤ 41 * d + 32
    omega
  · rw [List.mem_singleton.mp hw]
    exact (hst.mv hW).2 _ k1 rfl a'
  · unfold nPar at hp
    rw [h] at hp
    exact (Option.some.inj hp).symm
theorem V_callV {M' : Mt} {d' idx k ci : Nat} {as : List Value} (hd : decode (mC M) pc = .ok (.invokevirtual idx, 3)) (hl : Cond.methodLink (mY M).cls idx (mY M') ∈ lw_tbl ∨ ∃ h, Cond.methodLinkNest (mY M).cls idx (mY M') h ∈ lw_tbl) (hkn : KnC (mY M') (mC M') (mL M') (mR M')) (hin : Cond.instanceMethod (mY M') ∈ lw_tbl) (hse : Cond.selects (mY M').cls (mY M') (mY M') ∈ lw_tbl) (hp : nPar (mY M') as.length) (hc : (vwCl[ci]?).map (fun q => q.1) = some (mY M').cls) (hk : at_ n k (.inr ci)) (hd' : d' + 1 ≤ d) (hr : (st.map fun v => v.category).sum ≤ 8) (hm : cs + mc_ M' ≤ mc_ M ∧ sl + ms_ M' ≤ ms_ M)
    (hC : Cal E d' M' (.ref k :: as) n I J R (fun v n' I' J' R' => V E d M Post (pc + 3) ls (v.toList ++ st) n' (cs + mc_ M') (sl + ms_ M') I' J' R')) : V E d M Post pc ls (as.reverse ++ .ref k :: st) n cs sl I J R := by
  intro p e s m args below meth c X H locs lc hH hS hL
  have hst := X.2.2.2.2.2.2.2.1
  obtain ⟨q, hq, hq1⟩ : ∃ q, vwCl[ci]? = some q ∧ q.1 = (mY M').cls := by
    cases h : vwCl[ci]? with
    | none => rw [h] at hc; cases hc
    | some q => rw [h] at hc; exact ⟨q, rfl, Option.some.inj hc⟩
  have hrecv := va_recv (a := eB E + k) hst.1 hH.1 hq (q0 := k) (fs := fl E I J R k ci) (by rw [wld_at E I J R hk.1, cel_obj hk.2])
  rw [hq1] at hrecv
  have hcb := cbOf (d := d) (M := M) (args := args) hst hkn hp hd'
  have hpre : PreV s H (mY M').cls (eB E + k) (PcE E (.ref k :: as) n I J R) (as.map (cv E)) := ⟨blind, hrecv, fun U hU hW => ⟨rfl, by rw [hU]; exact hH, hst.mv hW⟩⟩
  have hroom : 2 * (F0 m pc lc ((as.map (cv E)).reverse ++ .ref (eB E + k) :: st.map (cv E))).monitorRoom + ((st.map (cv E)).map fun v => v.category).sum ≤ 8 := by
    show 2 * 0 + _ ≤ 8
    rw [cat_map]
    omega
  have e0 : (as.reverse ++ .ref k :: st).map (cv E) = (as.map (cv E)).reverse ++ .ref (eB E + k) :: st.map (cv E) := by simp [cv]
  rw [e0]
  refine W_call X hS hL (rest := st) (mc := mc_ M') (ms := ms_ M') (a := (Value.ref (eB E + k) :: as.map (cv E)).toArray) (Pq := (fun v n' I' J' R' => V E d M Post (pc + 3) ls (v.toList ++ st) n' (cs + mc_ M') (sl + ms_ M') I' J' R')) ?_ (fun v n' I' J' R' h => h)
  rcases hl with hl | ⟨host, hl⟩
  · exact va_runV (Ts := TB) (own := (mY M).cls) (C := (mY M').cls) (bytes := mC M') (maxL := mL M') (ret := mR M') (n := as.length) ⟨X.1, X.2.1, X.2.2.1, X.2.2.2.2.1, X_hts hst args⟩ hC ⟨⟨hcb.1, hcb.2.1, hcb.2.2.1, hcb.2.2.2.1, hcb.2.2.2.2.1, hcb.2.2.2.2.2.1, hcb.2.2.2.2.2.2.1, hcb.2.2.2.2.2.2.2.1, hcb.2.2.2.2.2.2.2.2.1, hcb.2.2.2.2.2.2.2.2.2, hst.2 _ hl rfl _⟩, hst.2 _ hin rfl _, hst.2 _ hse rfl _⟩ hpre rfl (by simp) hL.1 rfl hroom hd hm
  · exact va_runVN (Ts := TB) (own := (mY M).cls) (C := (mY M').cls) (host := host) (bytes := mC M') (maxL := mL M') (ret := mR M') (n := as.length) ⟨X.1, X.2.1, X.2.2.1, X.2.2.2.2.1, X_hts hst args⟩ hC ⟨⟨⟨hcb.1, hcb.2.1, hcb.2.2.1, hcb.2.2.2.1, hcb.2.2.2.2.1, hcb.2.2.2.2.2.1⟩, hcb.2.2.2.2.2.2.1, hcb.2.2.2.2.2.2.2.1, hcb.2.2.2.2.2.2.2.2.1, hcb.2.2.2.2.2.2.2.2.2, hst.2 _ hl rfl _⟩, hst.2 _ hin rfl _, hst.2 _ hse rfl _⟩ hpre rfl (by simp) hL.1 rfl hroom hd hm
theorem V_callS {M' : Mt} {d' idx : Nat} {as : List Value} (hd : decode (mC M) pc = .ok (.invokestatic idx, 3)) (hl : Cond.methodLink (mY M).cls idx (mY M') ∈ lw_tbl ∨ ∃ h, Cond.methodLinkNest (mY M).cls idx (mY M') h ∈ lw_tbl) (hkn : KnC (mY M') (mC M') (mL M') (mR M')) (hin : Cond.static (mY M') ∈ lw_tbl) (hp : nPar (mY M') as.length) (hd' : d' + 1 ≤ d) (hr : (st.map fun v => v.category).sum ≤ 8) (hm : cs + mc_ M' ≤ mc_ M ∧ sl + ms_ M' ≤ ms_ M)
    (hC : Cal E d' M' as n I J R (fun v n' I' J' R' => V E d M Post (pc + 3) ls (v.toList ++ st) n' (cs + mc_ M') (sl + ms_ M') I' J' R')) : V E d M Post pc ls (as.reverse ++ st) n cs sl I J R := by
  intro p e s m args below meth c X H locs lc hH hS hL
  have hst := X.2.2.2.2.2.2.2.1
  have hcb := cbOf (d := d) (M := M) (args := args) hst hkn hp hd'
  have hpre : PreS s H (PcE E as n I J R) (as.map (cv E)) := ⟨blind, fun U hU hW => ⟨rfl, by rw [hU]; exact hH, hst.mv hW⟩⟩
  have hroom : 2 * (F0 m pc lc ((as.map (cv E)).reverse ++ st.map (cv E))).monitorRoom + ((st.map (cv E)).map fun v => v.category).sum ≤ 8 := by
    show 2 * 0 + _ ≤ 8
    rw [cat_map]
    omega
  have e0 : (as.reverse ++ st).map (cv E) = (as.map (cv E)).reverse ++ st.map (cv E) := by simp
  rw [e0]
  refine W_call X hS hL (rest := st) (mc := mc_ M') (ms := ms_ M') (a := (as.map (cv E)).toArray) (Pq := (fun v n' I' J' R' => V E d M Post (pc + 3) ls (v.toList ++ st) n' (cs + mc_ M') (sl + ms_ M') I' J' R')) ?_ (fun v n' I' J' R' h => h)
  rcases hl with hl | ⟨host, hl⟩
  · exact va_runS (Ts := TB) (own := (mY M).cls) (bytes := mC M') (maxL := mL M') (ret := mR M') (n := as.length) ⟨X.1, X.2.1, X.2.2.1, X.2.2.2.2.1, X_hts hst args⟩ hC ⟨⟨hcb.1, hcb.2.1, hcb.2.2.1, hcb.2.2.2.1, hcb.2.2.2.2.1, hcb.2.2.2.2.2.1, hcb.2.2.2.2.2.2.1, hcb.2.2.2.2.2.2.2.1, hcb.2.2.2.2.2.2.2.2.1, hcb.2.2.2.2.2.2.2.2.2, hst.2 _ hl rfl _⟩, hst.2 _ hin rfl _⟩ hpre rfl (by simp) hL.1 rfl hroom hd hm
  · exact va_runSN (Ts := TB) (own := (mY M).cls) (host := host) (bytes := mC M') (maxL := mL M') (ret := mR M') (n := as.length) ⟨X.1, X.2.1, X.2.2.1, X.2.2.2.2.1, X_hts hst args⟩ hC ⟨⟨⟨hcb.1, hcb.2.1, hcb.2.2.1, hcb.2.2.2.1, hcb.2.2.2.2.1, hcb.2.2.2.2.2.1⟩, hcb.2.2.2.2.2.2.1, hcb.2.2.2.2.2.2.2.1, hcb.2.2.2.2.2.2.2.2.1, hcb.2.2.2.2.2.2.2.2.2, hst.2 _ hl rfl _⟩, hst.2 _ hin rfl _, trivial⟩ hpre rfl (by simp) hL.1 rfl hroom hd hm
theorem V_callI {M' : Mt} {d' idx k : Nat} {as : List Value} (hd : decode (mC M) pc = .ok (.invokespecial idx, 3)) (hl : Cond.methodLink (mY M).cls idx (mY M') ∈ lw_tbl ∨ ∃ h, Cond.methodLinkNest (mY M).cls idx (mY M') h ∈ lw_tbl) (hkn : KnC (mY M') (mC M') (mL M') (mR M')) (hin : Cond.instanceMethod (mY M') ∈ lw_tbl) (hnm : (mY M').name = "<init>") (hret : mR M' = none) (hp : nPar (mY M') as.length) (hd' : d' + 1 ≤ d) (hr : (st.map fun v => v.category).sum ≤ 8) (hm : cs + mc_ M' ≤ mc_ M ∧ sl + ms_ M' ≤ ms_ M)
    (hC : Cal E d' M' (.ref k :: as) n I J R (fun v n' I' J' R' => V E d M Post (pc + 3) ls (v.toList ++ st) n' (cs + mc_ M') (sl + ms_ M') I' J' R')) : V E d M Post pc ls (as.reverse ++ .ref k :: st) n cs sl I J R := by
  intro p e s m args below meth c X H locs lc hH hS hL
  have hst := X.2.2.2.2.2.2.2.1
  have hcb := cbOf (d := d) (M := M) (args := args) hst hkn hp hd'
  have hpre : PreS s H (PcE E (.ref k :: as) n I J R) (.ref (eB E + k) :: as.map (cv E)) := ⟨blind, fun U hU hW => ⟨rfl, by rw [hU]; exact hH, hst.mv hW⟩⟩
  have hroom : 2 * (F0 m pc lc ((as.map (cv E)).reverse ++ .ref (eB E + k) :: st.map (cv E))).monitorRoom + ((st.map (cv E)).map fun v => v.category).sum ≤ 8 := by
    show 2 * 0 + _ ≤ 8
    rw [cat_map]
    omega
  have e0 : (as.reverse ++ .ref k :: st).map (cv E) = (as.map (cv E)).reverse ++ .ref (eB E + k) :: st.map (cv E) := by simp [cv]
  rw [e0]
  unfold Cal at hC
  rw [hret] at hcb hC
  refine W_call X hS hL (rest := st) (mc := mc_ M') (ms := ms_ M') (a := (Value.ref (eB E + k) :: as.map (cv E)).toArray) (Pq := (fun v n' I' J' R' => V E d M Post (pc + 3) ls (v.toList ++ st) n' (cs + mc_ M') (sl + ms_ M') I' J' R')) ?_ (fun v n' I' J' R' h => h)
  rcases hl with hl | ⟨host, hl⟩
  · exact va_runI (Ts := TB) (own := (mY M).cls) (bytes := mC M') (maxL := mL M') (n := as.length) ⟨X.1, X.2.1, X.2.2.1, X.2.2.2.2.1, X_hts hst args⟩ hC ⟨⟨hcb.1, hcb.2.1, hcb.2.2.1, hcb.2.2.2.1, hcb.2.2.2.2.1, hcb.2.2.2.2.2.1, hcb.2.2.2.2.2.2.1, hcb.2.2.2.2.2.2.2.1, hcb.2.2.2.2.2.2.2.2.1, hcb.2.2.2.2.2.2.2.2.2, hst.2 _ hl rfl _⟩, hnm, hst.2 _ hin rfl _⟩ hpre rfl (by simp) hL.1 rfl hroom hd hm
  · exact va_runIN (Ts := TB) (own := (mY M).cls) (host := host) (bytes := mC M') (maxL := mL M') (n := as.length) ⟨X.1, X.2.1, X.2.2.1, X.2.2.2.2.1, X_hts hst args⟩ hC ⟨⟨⟨hcb.1, hcb.2.1, hcb.2.2.1, hcb.2.2.2.1, hcb.2.2.2.2.1, hcb.2.2.2.2.2.1⟩, hcb.2.2.2.2.2.2.1, hcb.2.2.2.2.2.2.2.1, hcb.2.2.2.2.2.2.2.2.1, hcb.2.2.2.2.2.2.2.2.2, hst.2 _ hl rfl _⟩, hnm, hst.2 _ hin rfl _⟩ hpre rfl (by simp) hL.1 rfl hroom hd hm
-- Math
theorem V_max {idx : Nat} {x y : Int32} (hd : decode (mC M) pc = .ok (.invokestatic idx, 3)) (hl : Cond.methodLink (mY M).cls idx Lib.Math.max.name ∈ lw_tbl) (h1 : 1 ≤ d) (h2 : (st.map fun v => v.category).sum ≤ 8) (h3 : cs ≤ mc_ M) (h4 : sl ≤ ms_ M) (kk : V E d M Post (pc + 3) ls (.int (if x < y then y else x) :: st) n cs sl I J R) : V E d M Post pc ls (.int y :: .int x :: st) n cs sl I J R := by
  intro p e s m args below meth c X H locs lc hH hS hL
  have hst := X.2.2.2.2.2.2.2.1
  exact va_mmax X.1 X.2.1 (by rw [X.2.2.1, hL.1]) X.2.2.2.2.1 (hst.2 _ hl rfl args) (hst.2 _ km_J9_max_7cf53.2.1 rfl args) (hst.2 _ km_J9_max_7cf53.2.2 rfl args) (hst.2 _ km_J9_max_7cf53.1 rfl args) h1 (by show _ ≤ 41 * d + 32; rw [cat_map]; omega) h3 h4 hd (kk p e s m args below meth c X H locs lc hH hS hL)
theorem V_min {idx : Nat} {x y : Int32} (hd : decode (mC M) pc = .ok (.invokestatic idx, 3)) (hl : Cond.methodLink (mY M).cls idx Lib.Math.min.name ∈ lw_tbl) (h1 : 1 ≤ d) (h2 : (st.map fun v => v.category).sum ≤ 8) (h3 : cs ≤ mc_ M) (h4 : sl ≤ ms_ M) (kk : V E d M Post (pc + 3) ls (.int (if y < x then y else x) :: st) n cs sl I J R) : V E d M Post pc ls (.int y :: .int x :: st) n cs sl I J R := by
  intro p e s m args below meth c X H locs lc hH hS hL
  have hst := X.2.2.2.2.2.2.2.1
  exact va_mmin X.1 X.2.1 (by rw [X.2.2.1, hL.1]) X.2.2.2.2.1 (hst.2 _ hl rfl args) (hst.2 _ km_J9_min_7cf53.2.1 rfl args) (hst.2 _ km_J9_min_7cf53.2.2 rfl args) (hst.2 _ km_J9_min_7cf53.1 rfl args) h1 (by show _ ≤ 41 * d + 32; rw [cat_map]; omega) h3 h4 hd (kk p e s m args below meth c X H locs lc hH hS hL)
theorem V_abs {idx : Nat} {x : Int32} (hd : decode (mC M) pc = .ok (.invokestatic idx, 3)) (hl : Cond.methodLink (mY M).cls idx Lib.Math.abs.name ∈ lw_tbl) (h1 : 1 ≤ d) (h2 : (st.map fun v => v.category).sum ≤ 8) (h3 : cs ≤ mc_ M) (h4 : sl ≤ ms_ M) (kk : V E d M Post (pc + 3) ls (.int (if 0 ≤ x then x else 0 - x) :: st) n cs sl I J R) : V E d M Post pc ls (.int x :: st) n cs sl I J R := by
  intro p e s m args below meth c X H locs lc hH hS hL
  have hst := X.2.2.2.2.2.2.2.1
  exact va_mabs X.1 X.2.1 (by rw [X.2.2.1, hL.1]) X.2.2.2.2.1 (hst.2 _ hl rfl args) (hst.2 _ km_J9_abs_0f7a4.2.1 rfl args) (hst.2 _ km_J9_abs_0f7a4.2.2 rfl args) (hst.2 _ km_J9_abs_0f7a4.1 rfl args) h1 (by show _ ≤ 41 * d + 32; rw [cat_map]; omega) h3 h4 hd (kk p e s m args below meth c X H locs lc hH hS hL)
-- returns
theorem fr_ok {p : Program} {s : State} {m : MethodId} {args : Array Value} {meth : Method} {c : Code} (X : Ctx E M p s m args meth c) {H : Heap} {locs : List Loc} {v : Option Value} (hH : Hld E n I J R H) (hS : va_S (fun q => eB E ≤ q) s.heap H locs) (hP : Post v n I J R) : ∀ t : State, t.heap = H → s.WarmedH t.vm → QcE E Post args s (.returned (v.map (cv E))) t := by
  intro t ht hW
  refine ⟨v, n, I, J, R, rfl, hP, by rw [ht]; exact hH, by rw [ht]; exact hS.1, fun q hq => ?_⟩
  rw [ht]
  exact hS.2.1 q (Nat.lt_of_lt_of_le hq X.2.2.2.2.2.2.2.2.1) (Nat.not_le.mpr hq)
theorem QM_not {below : List Frame} {args : Array Value} {s : State} (h : mW M = false) : QM E M Post below args s = MQ below (QcE E Post) args s (mc_ M) (ms_ M) (fun q => eB E ≤ q) := by
  unfold QM
  rw [if_neg (by rw [h]; decide)]
theorem V_ireturn {v : Int32} {ty : FieldType} (hd : decode (mC M) pc = .ok (.ireturn, 1)) (hw : mW M = false) (hr : mR M = some ty) (hn : narrow ty (.int v) = .int v) (h1 : cs ≤ mc_ M) (h2 : sl ≤ ms_ M) (hP : Post (some (.int v)) n I J R) : V E d M Post pc ls [.int v] n cs sl I J R := by
  intro p e s m args below meth c X H locs lc hH hS hL
  rw [QM_not hw]
  refine W.widen h1 h2 ?_
  exact W.zret (Qc := QcE E Post) (free := fun q => eB E ≤ q) (ty := ty) X.1 X.2.1 (by rw [X.2.2.2.1, hr]) hn (fr_ok (v := some (.int v)) X hH hS hP) (fun q hq => hS.2.2 q hq) hd X.2.2.2.2.2.1
theorem V_lreturn {v : Int64} (hd : decode (mC M) pc = .ok (.lreturn, 1)) (hw : mW M = false) (hr : mR M = some .long) (h1 : cs ≤ mc_ M) (h2 : sl ≤ ms_ M) (hP : Post (some (.long v)) n I J R) : V E d M Post pc ls [.long v] n cs sl I J R := by
  intro p e s m args below meth c X H locs lc hH hS hL
  rw [QM_not hw]
  refine W.widen h1 h2 ?_
  exact W.lret (Qc := QcE E Post) (free := fun q => eB E ≤ q) X.1 X.2.1 (by rw [X.2.2.2.1, hr]) (fr_ok (v := some (.long v)) X hH hS hP) (fun q hq => hS.2.2 q hq) hd X.2.2.2.2.2.1
theorem V_return {ls : List (Option Value)} (hd : decode (mC M) pc = .ok (.return_, 1)) (hw : mW M = false) (hr : mR M = none) (h1 : cs ≤ mc_ M) (h2 : sl ≤ ms_ M) (hP : Post none n I J R) : V E d M Post pc ls [] n cs sl I J R := by
  intro p e s m args below meth c X H locs lc hH hS hL
  rw [QM_not hw]
  refine W.widen h1 h2 ?_
  exact W.vret (Qc := QcE E Post) (free := fun q => eB E ≤ q) X.1 X.2.1 (by rw [X.2.2.2.1, hr]) (fr_ok (v := none) X hH hS hP) (fun q hq => hS.2.2 q hq) hd X.2.2.2.2.2.1
-- a contract out of a walk
def ent : List Value → Nat → List (Option Value)
  | [], k => List.replicate k none
  | .long x :: vs, k => some (.long x) :: none :: ent vs (k - 2)
  | .double x :: vs, k => some (.double x) :: none :: ent vs (k - 2)
  | v :: vs, k => some v :: ent vs (k - 1)
theorem ent_args (E : En) : ∀ (vs : List Value) (k i0 i : Nat) (v : Value), (ent vs k)[i]? = some (some v) → (i0 + i, cv E v) ∈ lv_args i0 (vs.map (cv E))
  | [], k, i0, i, v, h => by
    simp only [ent] at h
    rw [List.getElem?_replicate] at h
    split at h <;> cases h
  | w :: vs, k, i0, i, v, h => by
    have step2 : ∀ (u : Value), u.category = 2 → w = u → ent (w :: vs) k = some u :: none :: ent vs (k - 2) → (i0 + i, cv E v) ∈ lv_args i0 ((w :: vs).map (cv E)) := by
      intro u hu hw he
      subst hw
      rw [he] at h
      simp only [List.map_cons, lv_args, cv_cat, hu, if_true]
      match i, h with
      | 0, h => cases h; exact List.mem_cons_self
      | 1, h => cases h
      | i + 2, h =>
        have := ent_args E vs (k - 2) (i0 + 2) i v h
        rw [show i0 + (i + 2) = i0 + 2 + i by omega]
        exact List.mem_cons_of_mem _ this
    have step1 : ¬ w.category = 2 → ent (w :: vs) k = some w :: ent vs (k - 1) → (i0 + i, cv E v) ∈ lv_args i0 ((w :: vs).map (cv E)) := by
      intro hu he
      rw [he] at h
      simp only [List.map_cons, lv_args, cv_cat, hu, if_false]
      match i, h with
      | 0, h => cases h; exact List.mem_cons_self
      | i + 1, h =>
        have := ent_args E vs (k - 1) (i0 + 1) i v h
        rw [show i0 + (i + 1) = i0 + 1 + i by omega]
        exact List.mem_cons_of_mem _ this
    cases w with
    | long x => exact step2 _ rfl rfl rfl
    | double x => exact step2 _ rfl rfl rfl
    | int x => exact step1 (by intro q; cases q) rfl
    | float x => exact step1 (by intro q; cases q) rfl
    | null => exact step1 (by intro q; cases q) rfl
    | ref x => exact step1 (by intro q; cases q) rfl
    | retAddr x => exact step1 (by intro q; cases q) rfl
theorem Cal_of {as : List Value} (hkn : KnC (mY M) (mC M) (mL M) (mR M)) (hw : mW M = false) (hlen : (lg_sl (as.map (cv E))).length ≤ mL M) (h : V E d M Post 0 (ent as (mL M)) [] n 0 0 I J R) : Cal E d M as n I J R Post := by
  refine Met.ofW (cc := mC M) (maxL := mL M) (ret := mR M) hkn.2.2.2.2 rfl ?_
  intro p e s m args below meth c s₁ B hml hv
  obtain ⟨rfl, hH, hst⟩ := hv
  have X : Ctx E M p s m (as.map (cv E)).toArray meth c := ⟨B.exec, B.bytes, hml, B.returns, findClass_of_methodNamed B.named, B.notSynchronized, (name_of_methodNamed B.named B.method).1, hst, by rw [hH.2]; exact Nat.le_add_right _ _, fun q => by rw [hw] at q; cases q⟩
  have hl := lv_entry (as.map (cv E)) (n := mL M) hlen
  rw [lg_entry_eq]
  have hK := h p e s m (as.map (cv E)).toArray below meth c X s.heap [] _ hH va_S.rf ⟨hl.1, hl.2.1, fun i v hi => hl.2.2 (i, cv E v) (by have := ent_args E as (mL M) 0 i v hi; rwa [Nat.zero_add] at this)⟩
  rw [QM_not hw] at hK
  exact hK
end
