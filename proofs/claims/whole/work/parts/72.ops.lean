/-! Calls of the class: owed, told, wrong, keep, back, rest, lines, rehearse -/
def cl (x : Int32) : Nat := x.toNatClampNeg
theorem cl_nI {j : Nat} (h : j < 2 ^ 31) : cl (nI j) = j := nI_clamp h
theorem inR_cl {x : Int32} {n : Nat} (h : inR x n = true) (hn : n < 2 ^ 31) : cl x < n ∧ x = nI (cl x) := by
  obtain ⟨j, h1, h2⟩ := inR_t h hn
  subst h2
  rw [cl_nI (by omega)]
  exact ⟨h1, rfl⟩
def a_owed (K : KT) (D : Di) (p : Int32) : Int32 := if inR p (K 0 0) then D.2.2 (cl p) else -1
def a_told (K : KT) (tl : Nat → Int32) (p s : Int32) : Int32 := if inR p (K 0 0) && inR s 100000 then tl (cl p) else -1
def t_told (K : KT) (tl : Nat → Int32) (p s : Int32) : Nat → Int32 := if inR p (K 0 0) && inR s 100000 then (fun q => if q = cl p then s else tl q) else tl
def wrF (ow tl : Nat → Int32) : Nat → Nat → Int32
  | 0, _ => -4
  | r + 1, p => if ow p = tl p then wrF ow tl r (p + 1) else nI p
def a_lines (K : KT) (D : Di) (p i : Int32) : Int32 := if inR p (K 0 0) && inR i (K 0 1) then (if may K (cl p) (cl i) then nI (kpt K D.1 D.2.1 (cl p) (cl i)) else -2) else -1
def a_reh (K : KT) (p i : Int32) : Int32 := if inR p (K 0 0) && inR i (K 0 1) then (if may K (cl p) (cl i) then nI ((K 6 (cl i) + 99) / 100) else -2) else -1
def d_reh (K : KT) (D : Di) (p i : Int32) : Di := if inR p (K 0 0) && inR i (K 0 1) && may K (cl p) (cl i) then (D.1, (fun q => if q = 8 * cl p + cl i then D.1 else D.2.1 q), D.2.2) else D
theorem CS.frame {t : Nat → Nat} {len : Nat} {K : KT} {D D1 D2 : Di} {kp : Nat} {tl : Nat → Int32} {I I' : TI} {J : TJ} {R : TR} (h : CS t len K D D1 D2 kp tl I J R) (he : I' = I) : CS t len K D D1 D2 kp tl I' J R := by rw [he]; exact h
section
variable {E : En} {I : TI} {J : TJ} {R : TR} {t : Nat → Nat} {len : Nat} {K : KT} {D D1 D2 : Di} {kp : Nat} {tl : Nat → Int32}
theorem OK.same {v : Option Value} (h : CS t len K D D1 D2 kp tl I J R) : OK t len K D D1 D2 kp tl v I J v NC I J R := ⟨rfl, rfl, h, fun _ _ _ => rfl, fun _ _ _ => rfl⟩
theorem op_owed {d : Nat} (hd : 2 ≤ d) (hB : KB K) (h : CS t len K D D1 D2 kp tl I J R) {p : Int32} : Cal E d M_X10_owed [.ref 0, .int p] NC I J R (OK t len K D D1 D2 kp tl (some (.int (a_owed K D p))) I J) := by
  have hP := hB.1.1
  have h' := h
  obtain ⟨co, dr, cc, a1, a2, hw, rfl, hX, hS, hT, hD, hC⟩ := h
  have hco := hw.co
  have hrc : RR co dr cc a1 a2 0 3 = some co := rfl
  obtain ⟨_, _, _, _, _, _, _, _, _, _, _, _, _, _, _, _, _, _, _, _, _, _, _⟩ := f_co (co := co) (dr := dr) (cc := cc) (a1 := a1) (a2 := a2) (hco)
  refine Cal_of kn_X10_owed rfl (Nat.le_of_ble_eq_true rfl) ?_
  refine V_aload_n dX10_owed_0 rfl rfl ?_
  refine V_getR dX10_owed_1 fl_X10_23 (by first | assumption | exact ⟨by decide, rfl⟩) (by first | assumption | rfl) ?_
  refine V_iload_n dX10_owed_4 rfl rfl ?_
  refine V_cV1i (M' := M_X3_hasPlayer) (d' := 1) dX10_owed_5 (Or.inl ml_X10_131) kb_X3_hasPlayer (by first | assumption | exact ⟨by decide, rfl⟩) (by first | decide | omega) (by simp [Value.category]) ⟨by decide, by decide⟩ ?_
  refine sp_hasPlayer hco hX.1.1 (by omega) ⟨_, rfl, ?_⟩
  cases hv : inR p (K 0 0)
  · refine V_if_eq_t (tgt := 23) dX10_owed_8 (by decide) (rfl) ?_
    refine V_iconst (v := (-1)) dX10_owed_23 (by decide) ?_
    refine V_ireturn dX10_owed_24 rfl rfl rfl (by decide) (by decide) ?_
    rw [a_owed, hv]
    exact OK.same h'
  · obtain ⟨q1, q2⟩ := inR_cl hv (by omega)
    refine V_if_eq_f (tgt := 23) dX10_owed_8 (by decide) (by decide) ?_
    refine V_aload_n dX10_owed_11 rfl rfl ?_
    refine V_getR dX10_owed_12 fl_X10_33 (by first | assumption | exact ⟨by decide, rfl⟩) (by first | assumption | rfl) ?_
    refine V_getR dX10_owed_15 fl_X10_302 (by first | assumption | exact ⟨by decide, rfl⟩) (by first | assumption | rfl) ?_
    refine V_iload_n dX10_owed_18 rfl rfl ?_
    refine V_ial dX10_owed_19 (by first | assumption | exact ⟨by decide, rfl⟩) (show ix _ (cl p) 10 from ⟨q2, by omega⟩) ?_
    refine V_goto (tgt := 24) dX10_owed_20 (by decide) ?_
    refine V_ireturn dX10_owed_24 rfl rfl rfl (by decide) (by decide) ?_
    rw [a_owed, hv, hD.1.2.2 _ (by omega)]
    exact OK.same h'
theorem op_told {d : Nat} (hd : 2 ≤ d) (hB : KB K) (h : CS t len K D D1 D2 kp tl I J R) {p s : Int32} : Cal E d M_X10_told [.ref 0, .int p, .int s] NC I J R (OK t len K D D1 D2 kp (t_told K tl p s) (some (.int (a_told K tl p s))) I J) := by
  have hP := hB.1.1
  have h' := h
  obtain ⟨co, dr, cc, a1, a2, hw, rfl, hX, hS, hT, hD, hC⟩ := h
  have hco := hw.co
  have hrc : RR co dr cc a1 a2 0 3 = some co := rfl
  obtain ⟨_, _, _, _, _, _, _, _, _, _, _, _, _, _, _, _, _, _, _, _, _, _, _⟩ := f_co (co := co) (dr := dr) (cc := cc) (a1 := a1) (a2 := a2) (hco)
  refine Cal_of kn_X10_told rfl (Nat.le_of_ble_eq_true rfl) ?_
  refine V_aload_n dX10_told_0 rfl rfl ?_
  refine V_getR dX10_told_1 fl_X10_23 (by first | assumption | exact ⟨by decide, rfl⟩) (by first | assumption | rfl) ?_
  refine V_iload_n dX10_told_4 rfl rfl ?_
  refine V_cV1i (M' := M_X3_hasPlayer) (d' := 1) dX10_told_5 (Or.inl ml_X10_131) kb_X3_hasPlayer (by first | assumption | exact ⟨by decide, rfl⟩) (by first | decide | omega) (by simp [Value.category]) ⟨by decide, by decide⟩ ?_
  refine sp_hasPlayer hco hX.1.1 (by omega) ⟨_, rfl, ?_⟩
  cases hv : inR p (K 0 0)
  · refine V_if_eq_t (tgt := 22) dX10_told_8 (by decide) (rfl) ?_
    refine V_iconst (v := (-1)) dX10_told_22 (by decide) ?_
    refine V_ireturn dX10_told_23 rfl rfl rfl (by decide) (by decide) ?_
    rw [a_told, t_told, hv]
    exact OK.same h'
  · obtain ⟨q1, q2⟩ := inR_cl hv (by omega)
    by_cases hs0 : s < 0
    · refine V_if_eq_f (tgt := 22) dX10_told_8 (by decide) (by decide) ?_
      refine V_iload_n dX10_told_11 rfl rfl ?_
      refine V_if_lt_t (tgt := 22) dX10_told_12 (by decide) (hs0) ?_
      refine V_iconst (v := (-1)) dX10_told_22 (by decide) ?_
      refine V_ireturn dX10_told_23 rfl rfl rfl (by decide) (by decide) ?_
      rw [a_told, t_told, hv, inR_lt hs0]
      exact OK.same h'
    · by_cases hs1 : nI 100000 ≤ s
      · have hno : ¬ s ≤ 99999 := by
          intro z
          have z1 := Int32.le_iff_toInt_le.mp z
          have z2 := Int32.le_iff_toInt_le.mp hs1
          rw [nI_toInt (by omega)] at z2
          have e : (99999 : Int32).toInt = 99999 := by decide
          omega
        refine V_if_eq_f (tgt := 22) dX10_told_8 (by decide) (by decide) ?_
        refine V_iload_n dX10_told_11 rfl rfl ?_
        refine V_if_lt_f (tgt := 22) dX10_told_12 (by decide) (hs0) ?_
        refine V_iload_n dX10_told_15 rfl rfl (V_ldc_w dX10_told_16 ct_X10_305 ?_)
        refine V_icmp_le_f (tgt := 24) dX10_told_19 (by decide) (hno) ?_
        refine V_iconst (v := (-1)) dX10_told_22 (by decide) ?_
        refine V_ireturn dX10_told_23 rfl rfl rfl (by decide) (by decide) ?_
        rw [a_told, t_told, hv, inR_ge (by omega) hs1]
        exact OK.same h'
      · have hyes : s ≤ 99999 := by
          rw [Int32.le_iff_toInt_le]
          have z2 := (not_congr Int32.le_iff_toInt_le).mp hs1
          rw [nI_toInt (by omega)] at z2
          have e : (99999 : Int32).toInt = 99999 := by decide
          omega
        refine V_if_eq_f (tgt := 22) dX10_told_8 (by decide) (by decide) ?_
        refine V_iload_n dX10_told_11 rfl rfl ?_
        refine V_if_lt_f (tgt := 22) dX10_told_12 (by decide) (hs0) ?_
        refine V_iload_n dX10_told_15 rfl rfl (V_ldc_w dX10_told_16 ct_X10_305 ?_)
        refine V_icmp_le_t (tgt := 24) dX10_told_19 (by decide) (hyes) ?_
        refine V_aload_n dX10_told_24 rfl rfl ?_
        refine V_getR dX10_told_25 fl_X10_43 (by first | assumption | exact ⟨by decide, rfl⟩) (by first | assumption | rfl) ?_
        refine V_iload_n dX10_told_28 rfl rfl ?_
        refine V_ial dX10_told_29 (by first | assumption | exact ⟨by decide, rfl⟩) (show ix _ (cl p) 10 from ⟨q2, by omega⟩) ?_
        refine V_istore_3 dX10_told_30 (by decide) rfl (V_aload_n dX10_told_31 rfl rfl ?_)
        refine V_getR dX10_told_32 fl_X10_43 (by first | assumption | exact ⟨by decide, rfl⟩) (by first | assumption | rfl) ?_
        refine V_iload_n dX10_told_35 rfl rfl (V_iload_n dX10_told_36 rfl rfl ?_)
        refine V_ias dX10_told_37 (by first | assumption | exact ⟨by decide, rfl⟩) (show ix _ (cl p) 10 from ⟨q2, by omega⟩) ?_
        refine V_iload_n dX10_told_38 rfl rfl ?_
        refine V_ireturn dX10_told_39 rfl rfl rfl (by decide) (by decide) ?_
        rw [a_told, t_told, hv, inR_in (by omega) hs0 hs1]
        refine ⟨by rw [hD.2.2.2.2 _ (by omega)]; rfl, rfl, ⟨co, dr, cc, a1, a2, hw, rfl, hX.of (fun x y a b => by rw [u2n (by omega)]), hS.of (fun b => ⟨by rw [u2n (by omega)], by rw [u2n (by omega)]⟩), hT.of (fun y => by rw [u2n (by omega)]) (by rw [u2n (by omega)]), ⟨hD.1.of (fun x y a b => by rw [u2n (by omega)]), fun k => (hD.2.1 k).of (fun x y a b => by rw [u2n (by omega)]), fun k => (hD.2.2.1 k).of (fun x y a b => by rw [u2n (by omega)]), by rw [u2n (by omega)]; exact hD.2.2.2.1, fun q hq => ?_⟩, hC.of (fun x y a b => by rw [u2n (by omega)]) (fun _ => rfl)⟩, fun x y a => by rw [u2n (by omega)], fun _ _ _ => rfl⟩
        show _ = if q = cl p then s else tl q
        by_cases hqp : q = cl p
        · rw [hqp, u2e, if_pos rfl]
        · rw [u2n (Or.inr hqp), if_neg hqp]; exact hD.2.2.2.2 q hq
theorem op_wrong {d : Nat} (hB : KB K) (h : CS t len K D D1 D2 kp tl I J R) : Cal E d M_X10_wrong [.ref 0] NC I J R (OK t len K D D1 D2 kp tl (some (.int (wrF D.2.2 tl (K 0 0) 0))) I J) := by
  have hP := hB.1.1
  have h' := h
  obtain ⟨co, dr, cc, a1, a2, hw, rfl, hX, hS, hT, hD, hC⟩ := h
  have hco := hw.co
  have hrc : RR co dr cc a1 a2 0 3 = some co := rfl
  obtain ⟨_, _, _, _, _, _, _, _, _, _, _, _, _, _, _, _, _, _, _, _, _, _, _⟩ := f_co (co := co) (dr := dr) (cc := cc) (a1 := a1) (a2 := a2) (hco)
  refine Cal_of kn_X10_wrong rfl (Nat.le_of_ble_eq_true rfl) ?_
  refine V_iconst (v := 0) dX10_wrong_0 (by decide) (V_istore_1 dX10_wrong_1 (by decide) rfl ?_)
  have key : ∀ r p, p + r = K 0 0 → V E d M_X10_wrong (OK t len K D D1 D2 kp tl (some (.int (wrF D.2.2 tl r p))) I J) 2 [some (.ref 0), some (.int (nI p))] [] NC 0 0 I J (RR co dr cc a1 a2) := by
    intro r
    induction r with
    | zero =>
      intro p hp
      refine V_iload_n dX10_wrong_2 rfl rfl (V_aload_n dX10_wrong_3 rfl rfl ?_)
      refine V_getR dX10_wrong_4 fl_X10_23 (by first | assumption | exact ⟨by decide, rfl⟩) (by first | assumption | rfl) ?_
      refine V_getI dX10_wrong_7 fl_X10_110 (by first | assumption | exact ⟨by decide, rfl⟩) ?_
      refine V_icmp_ge_t (tgt := 39) dX10_wrong_10 (by decide) (by rw [hX.1.1]; exact nI_le (by omega) (by omega)) ?_
      refine V_bipush (v := (-4)) dX10_wrong_39 (by decide) ?_
      refine V_ireturn dX10_wrong_41 rfl rfl rfl (by decide) (by decide) ?_
      exact OK.same h'
    | succ r ih =>
      intro p hp
      by_cases he : D.2.2 p = tl p
      · have ih2 := ih (p + 1) (by omega)
        refine V_iload_n dX10_wrong_2 rfl rfl (V_aload_n dX10_wrong_3 rfl rfl ?_)
        refine V_getR dX10_wrong_4 fl_X10_23 (by first | assumption | exact ⟨by decide, rfl⟩) (by first | assumption | rfl) ?_
        refine V_getI dX10_wrong_7 fl_X10_110 (by first | assumption | exact ⟨by decide, rfl⟩) ?_
        refine V_icmp_ge_f (tgt := 39) dX10_wrong_10 (by decide) (by rw [hX.1.1]; exact nI_ge (by omega) (by omega)) ?_
        refine V_aload_n dX10_wrong_13 rfl rfl ?_
        refine V_getR dX10_wrong_14 fl_X10_33 (by first | assumption | exact ⟨by decide, rfl⟩) (by first | assumption | rfl) ?_
        refine V_getR dX10_wrong_17 fl_X10_302 (by first | assumption | exact ⟨by decide, rfl⟩) (by first | assumption | rfl) ?_
        refine V_iload_n dX10_wrong_20 rfl rfl ?_
        refine V_ial dX10_wrong_21 (by first | assumption | exact ⟨by decide, rfl⟩) (show ix _ p 10 from ⟨rfl, by omega⟩) ?_
        refine V_aload_n dX10_wrong_22 rfl rfl ?_
        refine V_getR dX10_wrong_23 fl_X10_43 (by first | assumption | exact ⟨by decide, rfl⟩) (by first | assumption | rfl) ?_
        refine V_iload_n dX10_wrong_26 rfl rfl ?_
        refine V_ial dX10_wrong_27 (by first | assumption | exact ⟨by decide, rfl⟩) (show ix _ p 10 from ⟨rfl, by omega⟩) ?_
        refine V_icmp_eq_t (tgt := 33) dX10_wrong_28 (by decide) (by rw [hD.1.2.2 p (by omega), hD.2.2.2.2 p (by omega), he]) ?_
        refine V_iinc_1 (w := 1) dX10_wrong_33 (by decide) (by decide) rfl (V_goto (tgt := 2) dX10_wrong_36 (by decide) ?_)
        rw [nI_1, wrF, if_pos he]
        exact ih2
      · refine V_iload_n dX10_wrong_2 rfl rfl (V_aload_n dX10_wrong_3 rfl rfl ?_)
        refine V_getR dX10_wrong_4 fl_X10_23 (by first | assumption | exact ⟨by decide, rfl⟩) (by first | assumption | rfl) ?_
        refine V_getI dX10_wrong_7 fl_X10_110 (by first | assumption | exact ⟨by decide, rfl⟩) ?_
        refine V_icmp_ge_f (tgt := 39) dX10_wrong_10 (by decide) (by rw [hX.1.1]; exact nI_ge (by omega) (by omega)) ?_
        refine V_aload_n dX10_wrong_13 rfl rfl ?_
        refine V_getR dX10_wrong_14 fl_X10_33 (by first | assumption | exact ⟨by decide, rfl⟩) (by first | assumption | rfl) ?_
        refine V_getR dX10_wrong_17 fl_X10_302 (by first | assumption | exact ⟨by decide, rfl⟩) (by first | assumption | rfl) ?_
        refine V_iload_n dX10_wrong_20 rfl rfl ?_
        refine V_ial dX10_wrong_21 (by first | assumption | exact ⟨by decide, rfl⟩) (show ix _ p 10 from ⟨rfl, by omega⟩) ?_
        refine V_aload_n dX10_wrong_22 rfl rfl ?_
        refine V_getR dX10_wrong_23 fl_X10_43 (by first | assumption | exact ⟨by decide, rfl⟩) (by first | assumption | rfl) ?_
        refine V_iload_n dX10_wrong_26 rfl rfl ?_
        refine V_ial dX10_wrong_27 (by first | assumption | exact ⟨by decide, rfl⟩) (show ix _ p 10 from ⟨rfl, by omega⟩) ?_
        refine V_icmp_eq_f (tgt := 33) dX10_wrong_28 (by decide) (by rw [hD.1.2.2 p (by omega), hD.2.2.2.2 p (by omega)]; exact he) ?_
        refine V_iload_n dX10_wrong_31 rfl rfl ?_
        refine V_ireturn dX10_wrong_32 rfl rfl rfl (by decide) (by decide) ?_
        rw [wrF, if_neg he]
        exact OK.same h'
  exact key (K 0 0) 0 (by omega)
theorem op_lines {d : Nat} (hd : 3 ≤ d) (hB : KB K) (hDB : DB D.1 D.2.1) (h : CS t len K D D1 D2 kp tl I J R) {p i : Int32} : Cal E d M_X10_lines [.ref 0, .int p, .int i] NC I J R (OK t len K D D1 D2 kp tl (some (.int (a_lines K D p i))) I J) := by
  have hP := hB.1.1
  have hQ := hB.1.2.1
  have h' := h
  obtain ⟨co, dr, cc, a1, a2, hw, rfl, hX, hS, hT, hD, hC⟩ := h
  have hco := hw.co
  have hrc : RR co dr cc a1 a2 0 3 = some co := rfl
  obtain ⟨_, _, _, _, _, _, _, _, _, _, _, _, _, _, _, _, _, _, _, _, _, _, _⟩ := f_co (co := co) (dr := dr) (cc := cc) (a1 := a1) (a2 := a2) (hco)
  refine Cal_of kn_X10_lines rfl (Nat.le_of_ble_eq_true rfl) ?_
  refine V_aload_n dX10_lines_0 rfl rfl ?_
  refine V_getR dX10_lines_1 fl_X10_23 (by first | assumption | exact ⟨by decide, rfl⟩) (by first | assumption | rfl) ?_
  refine V_iload_n dX10_lines_4 rfl rfl ?_
  refine V_cV1i (M' := M_X3_hasPlayer) (d' := 1) dX10_lines_5 (Or.inl ml_X10_131) kb_X3_hasPlayer (by first | assumption | exact ⟨by decide, rfl⟩) (by first | decide | omega) (by simp [Value.category]) ⟨by decide, by decide⟩ ?_
  refine sp_hasPlayer hco hX.1.1 (by omega) ⟨_, rfl, ?_⟩
  cases hv : inR p (K 0 0)
  · refine V_if_eq_t (tgt := 22) dX10_lines_8 (by decide) (rfl) ?_
    refine V_iconst (v := (-1)) dX10_lines_22 (by decide) ?_
    refine V_ireturn dX10_lines_23 rfl rfl rfl (by decide) (by decide) ?_
    rw [a_lines, hv]
    exact OK.same h'
  · obtain ⟨q1, q2⟩ := inR_cl hv (by omega)
    refine V_if_eq_f (tgt := 22) dX10_lines_8 (by decide) (by decide) ?_
    refine V_aload_n dX10_lines_11 rfl rfl ?_
    refine V_getR dX10_lines_12 fl_X10_23 (by first | assumption | exact ⟨by decide, rfl⟩) (by first | assumption | rfl) ?_
    refine V_iload_n dX10_lines_15 rfl rfl ?_
    refine V_cV1i (M' := M_X3_hasPart) (d' := 1) dX10_lines_16 (Or.inl ml_X10_151) kb_X3_hasPart (by first | assumption | exact ⟨by decide, rfl⟩) (by first | decide | omega) (by simp [Value.category]) ⟨by decide, by decide⟩ ?_
    refine sp_hasPart hco hX.1.2.1 (by omega) ⟨_, rfl, ?_⟩
    cases hv2 : inR i (K 0 1)
    · refine V_if_ne_f (tgt := 24) dX10_lines_19 (by decide) (rfl) ?_
      refine V_iconst (v := (-1)) dX10_lines_22 (by decide) ?_
      refine V_ireturn dX10_lines_23 rfl rfl rfl (by decide) (by decide) ?_
      rw [a_lines, hv, hv2]
      exact OK.same h'
    · obtain ⟨q3, q4⟩ := inR_cl hv2 (by omega)
      refine V_if_ne_t (tgt := 24) dX10_lines_19 (by decide) (by decide) ?_
      refine V_aload_n dX10_lines_24 rfl rfl ?_
      refine V_getR dX10_lines_25 fl_X10_23 (by first | assumption | exact ⟨by decide, rfl⟩) (by first | assumption | rfl) ?_
      refine V_iload_n dX10_lines_28 rfl rfl (V_iload_n dX10_lines_29 rfl rfl ?_)
      refine V_cV2i (M' := M_X3_mayPlay) (d' := 2) dX10_lines_30 (Or.inl ml_X10_219) kb_X3_mayPlay (by first | assumption | exact ⟨by decide, rfl⟩) (by first | decide | omega) (by simp [Value.category]) ⟨by decide, by decide⟩ ?_
      rw [q2, q4]
      refine sp_mayPlay hco hB hS q1 q3 ⟨_, rfl, ?_⟩
      rw [← q2, ← q4]
      cases hm : may K (cl p) (cl i)
      · refine V_if_ne_f (tgt := 39) dX10_lines_33 (by decide) (rfl) ?_
        refine V_bipush (v := (-2)) dX10_lines_36 (by decide) ?_
        refine V_ireturn dX10_lines_38 rfl rfl rfl (by decide) (by decide) ?_
        rw [a_lines, hv, hv2, hm]
        exact OK.same h'
      · refine V_if_ne_t (tgt := 39) dX10_lines_33 (by decide) (by decide) ?_
        refine V_aload_n dX10_lines_39 rfl rfl ?_
        refine V_getR dX10_lines_40 fl_X10_33 (by first | assumption | exact ⟨by decide, rfl⟩) (by first | assumption | rfl) ?_
        refine V_aload_n dX10_lines_43 rfl rfl ?_
        refine V_getR dX10_lines_44 fl_X10_23 (by first | assumption | exact ⟨by decide, rfl⟩) (by first | assumption | rfl) ?_
        refine V_iload_n dX10_lines_47 rfl rfl (V_iload_n dX10_lines_48 rfl rfl ?_)
        refine V_cV3i (M' := M_X4_keptLines) (d' := 1) dX10_lines_49 (Or.inl ml_X10_222) kb_X4_keptLines (by first | assumption | exact ⟨by decide, rfl⟩) (by first | decide | omega) (by simp [Value.category]) ⟨by decide, by decide⟩ ?_
        rw [a_lines, hv, hv2, hm]
        rw [show [Value.ref co, Value.int p, Value.int i] = [Value.ref co, Value.int (nI (cl p)), Value.int (nI (cl i))] by rw [← q2, ← q4]]
        refine sp_keptLines (Or.inl rfl) hco hB hX hD.1 hDB (by omega) q3 ⟨_, rfl, ?_⟩
        refine V_ireturn dX10_lines_52 rfl rfl rfl (by decide) (by decide) ?_
        exact OK.same h'
end
