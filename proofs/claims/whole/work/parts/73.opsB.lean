/-! Calls of the class: keep, back, rest, rehearse -/
def kpD1 (D D1 : Di) (kp : Nat) : Di := if kp = 0 then D else D1
def kpD2 (D D2 : Di) (kp : Nat) : Di := if kp = 1 then D else D2
def kpN (kp : Nat) : Nat := if kp < 2 then kp + 1 else kp
def a_keep (kp : Nat) : Int32 := if kp < 2 then nI (kp + 1) else -3
def bkD (D D1 D2 : Di) (kp : Nat) : Di := if kp = 0 then D else if kp = 1 then D1 else D2
def a_back (kp : Nat) : Int32 := if kp = 0 then -2 else nI (kp - 1)
def rsI (x : Int32) : Bool := decide (1 ≤ x.toInt ∧ x.toInt ≤ 99)
def rsD (D : Di) (x : Int32) : Di := if rsI x then (D.1 + cl x, D.2.1, D.2.2) else D
def a_rest (D : Di) (x : Int32) : Int32 := if rsI x then nI (D.1 + cl x) else -1
theorem rsI_cl {x : Int32} (h : rsI x = true) : 1 ≤ cl x ∧ cl x ≤ 99 ∧ x = nI (cl x) := by
  have hx := of_decide_eq_true h
  obtain ⟨h1, h2⟩ := inR_cl (x := x) (n := 100) (decide_eq_true ⟨by omega, by omega⟩) (by omega)
  have h3 := hx.1
  rw [h2, nI_toInt (by omega)] at h3
  exact ⟨by omega, by omega, h2⟩
section
variable {E : En} {I : TI} {J : TJ} {R : TR} {t : Nat → Nat} {len : Nat} {K : KT} {D D1 D2 : Di} {kp : Nat} {tl : Nat → Int32}
theorem op_rest {d : Nat} (h : CS t len K D D1 D2 kp tl I J R) {x : Int32} : Cal E d M_X10_rest [.ref 0, .int x] NC I J R (OK t len K (rsD D x) D1 D2 kp tl (some (.int (a_rest D x))) I J) := by
  have h' := h
  obtain ⟨co, dr, cc, a1, a2, hw, rfl, hX, hS, hT, hD, hC⟩ := h
  have hco := hw.co
  have e1 : (1 : Int32).toInt = 1 := by decide
  have e99 : (99 : Int32).toInt = 99 := by decide
  refine Cal_of kn_X10_rest rfl (Nat.le_of_ble_eq_true rfl) ?_
  by_cases h1 : x < 1
  · have hr : rsI x = false := decide_eq_false (fun z => by have := Int32.lt_iff_toInt_lt.mp h1; omega)
    refine V_iload_n dX10_rest_0 rfl rfl (V_iconst (v := 1) dX10_rest_1 (by decide) ?_)
    refine V_icmp_lt_t (tgt := 11) dX10_rest_2 (by decide) (h1) ?_
    refine V_iconst (v := (-1)) dX10_rest_11 (by decide) ?_
    refine V_ireturn dX10_rest_12 rfl rfl rfl (by decide) (by decide) ?_
    rw [rsD, a_rest, hr]
    exact OK.same h'
  · by_cases h2 : x ≤ 99
    · have hr : rsI x = true := decide_eq_true (by
        have z1 := (not_congr Int32.lt_iff_toInt_lt).mp h1
        have z2 := Int32.le_iff_toInt_le.mp h2
        omega)
      obtain ⟨q1, q2, q3⟩ := rsI_cl hr
      refine V_iload_n dX10_rest_0 rfl rfl (V_iconst (v := 1) dX10_rest_1 (by decide) ?_)
      refine V_icmp_lt_f (tgt := 11) dX10_rest_2 (by decide) (h1) ?_
      refine V_iload_n dX10_rest_5 rfl rfl (V_bipush (v := 99) dX10_rest_6 (by decide) ?_)
      refine V_icmp_le_t (tgt := 13) dX10_rest_8 (by decide) (h2) ?_
      refine V_aload_n dX10_rest_13 rfl rfl ?_
      refine V_getR dX10_rest_14 fl_X10_33 (by first | assumption | exact ⟨by decide, rfl⟩) (by first | assumption | rfl) ?_
      refine V_dup dX10_rest_17 rfl ?_
      refine V_getI dX10_rest_18 fl_X10_249 (by first | assumption | exact ⟨by decide, rfl⟩) ?_
      refine V_iload_n dX10_rest_21 rfl rfl (V_iadd dX10_rest_22 ?_)
      refine V_putI dX10_rest_23 fl_X10_249 (by first | assumption | exact ⟨by decide, rfl⟩) ?_
      refine V_aload_n dX10_rest_26 rfl rfl ?_
      refine V_getR dX10_rest_27 fl_X10_33 (by first | assumption | exact ⟨by decide, rfl⟩) (by first | assumption | rfl) ?_
      refine V_getI dX10_rest_30 fl_X10_249 (by first | assumption | exact ⟨by decide, rfl⟩) ?_
      refine V_ireturn dX10_rest_33 rfl rfl rfl (by decide) (by decide) ?_
      rw [rsD, a_rest, hr, u2e, hD.1.1]
      have ev : nI D.1 + x = nI (D.1 + cl x) := by
        conv => lhs; rw [q3]
        rw [nI_add]
      rw [ev]
      refine ⟨rfl, rfl, ⟨co, dr, cc, a1, a2, hw, rfl, hX.of (fun x y a b => by rw [u2n (by omega)]), hS.of (fun b => ⟨by rw [u2n (by omega)], by rw [u2n (by omega)]⟩), hT.of (fun y => by rw [u2n (by omega)]) (by rw [u2n (by omega)]), ⟨⟨by rw [u2e]; rfl, fun j hj => by rw [u2n (by omega)]; exact hD.1.2.1 j hj, fun p hp => by rw [u2n (by omega)]; exact hD.1.2.2 p hp⟩, fun k => (hD.2.1 k).of (fun x y a b => by rw [u2n (by omega)]), fun k => (hD.2.2.1 k).of (fun x y a b => by rw [u2n (by omega)]), by rw [u2n (by omega)]; exact hD.2.2.2.1, fun q hq => by rw [u2n (by omega)]; exact hD.2.2.2.2 q hq⟩, hC.of (fun x y a b => by rw [u2n (by omega)]) (fun _ => rfl)⟩, fun x y a => by rw [u2n (by omega)], fun _ _ _ => rfl⟩
    · have hr : rsI x = false := decide_eq_false (fun z => by have := (not_congr Int32.le_iff_toInt_le).mp h2; omega)
      refine V_iload_n dX10_rest_0 rfl rfl (V_iconst (v := 1) dX10_rest_1 (by decide) ?_)
      refine V_icmp_lt_f (tgt := 11) dX10_rest_2 (by decide) (h1) ?_
      refine V_iload_n dX10_rest_5 rfl rfl (V_bipush (v := 99) dX10_rest_6 (by decide) ?_)
      refine V_icmp_le_f (tgt := 13) dX10_rest_8 (by decide) (h2) ?_
      refine V_iconst (v := (-1)) dX10_rest_11 (by decide) ?_
      refine V_ireturn dX10_rest_12 rfl rfl rfl (by decide) (by decide) ?_
      rw [rsD, a_rest, hr]
      exact OK.same h'
theorem op_keep {d : Nat} (hd : 2 ≤ d) (hk : kp ≤ 2) (h : CS t len K D D1 D2 kp tl I J R) : Cal E d M_X10_keep [.ref 0] NC I J R (OK t len K D (kpD1 D D1 kp) (kpD2 D D2 kp) (kpN kp) tl (some (.int (a_keep kp))) I J) := by
  have h' := h
  obtain ⟨co, dr, cc, a1, a2, hw, rfl, hX, hS, hT, hD, hC⟩ := h
  have hco := hw.co
  have hn := hD.2.2.2.1
  refine Cal_of kn_X10_keep rfl (Nat.le_of_ble_eq_true rfl) ?_
  rcases (show kp = 0 ∨ kp = 1 ∨ kp = 2 by omega) with rfl | rfl | rfl
  · refine V_aload_n dX10_keep_0 rfl rfl ?_
    refine V_getI dX10_keep_1 fl_X10_117 (by first | assumption | exact ⟨by decide, rfl⟩) ?_
    refine V_iconst (v := 2) dX10_keep_4 (by decide) ?_
    refine V_icmp_lt_t (tgt := 11) dX10_keep_5 (by decide) (by rw [hn]; decide) ?_
    refine V_aload_n dX10_keep_11 rfl rfl ?_
    refine V_getI dX10_keep_12 fl_X10_117 (by first | assumption | exact ⟨by decide, rfl⟩) ?_
    refine V_if_ne_f (tgt := 25) dX10_keep_15 (by decide) (by rw [hn]; rfl) ?_
    refine V_aload_n dX10_keep_18 rfl rfl ?_
    refine V_getR dX10_keep_19 fl_X10_37 (by first | assumption | exact ⟨by decide, rfl⟩) (by first | assumption | rfl) ?_
    refine V_goto (tgt := 29) dX10_keep_22 (by decide) (V_astore_1 dX10_keep_29 (by decide) rfl (V_aload_n dX10_keep_30 rfl rfl (V_aload_n dX10_keep_31 rfl rfl ?_)))
    refine V_getR dX10_keep_32 fl_X10_33 (by first | assumption | exact ⟨by decide, rfl⟩) (by first | assumption | rfl) ?_
    refine V_cV1v (M' := M_X4_copy) (d' := 1) dX10_keep_35 (Or.inl ml_X10_310) kb_X4_copy (by first | assumption | exact ⟨by decide, rfl⟩) (by first | decide | omega) (by simp [Value.category]) ⟨by decide, by decide⟩ ?_
    refine sp_diCopy (c := 35) (Or.inr (Or.inl rfl)) (Or.inl rfl) (by decide) hD.1 (fun I1 g1 g2 => ⟨rfl, ?_⟩)
    refine V_aload_n dX10_keep_38 rfl rfl (V_dup dX10_keep_39 rfl ?_)
    refine V_getI dX10_keep_40 fl_X10_117 (by first | assumption | exact ⟨by decide, rfl⟩) ?_
    refine V_iconst (v := 1) dX10_keep_43 (by decide) (V_iadd dX10_keep_44 ?_)
    refine V_putI dX10_keep_45 fl_X10_117 (by first | assumption | exact ⟨by decide, rfl⟩) ?_
    refine V_aload_n dX10_keep_48 rfl rfl ?_
    refine V_getI dX10_keep_49 fl_X10_117 (by first | assumption | exact ⟨by decide, rfl⟩) ?_
    refine V_ireturn dX10_keep_52 rfl rfl rfl (by decide) (by decide) ?_
    rw [u2e, g1 0 8 (by omega), hn]
    refine ⟨rfl, rfl, ⟨co, dr, cc, a1, a2, hw, rfl, hX.of (fun x y a b => by rw [u2n (by omega)]; exact g1 x y (by omega)), hS.of (fun b => ⟨by rw [u2n (by omega)]; exact g1 _ _ (by omega), by rw [u2n (by omega)]; exact g1 _ _ (by omega)⟩), hT.of (fun y => by rw [u2n (by omega)]; exact g1 _ _ (by omega)) (by rw [u2n (by omega)]; exact g1 _ _ (by omega)), ⟨hD.1.of (fun x y a b => by rw [u2n (by omega)]; exact g1 _ _ (by omega)), fun k => g2.of (fun x y a b => by rw [u2n (by omega)]), fun k => absurd k (by decide), by rw [u2e]; rfl, fun q hq => by rw [u2n (by omega), g1 _ _ (by omega)]; exact hD.2.2.2.2 q hq⟩, hC.of (fun x y a b => by rw [u2n (by omega)]; exact g1 _ _ (by omega)) (fun _ => rfl)⟩, fun x y a => by rw [u2n (by omega)]; exact g1 _ _ (by omega), fun _ _ _ => rfl⟩
  · refine V_aload_n dX10_keep_0 rfl rfl ?_
    refine V_getI dX10_keep_1 fl_X10_117 (by first | assumption | exact ⟨by decide, rfl⟩) ?_
    refine V_iconst (v := 2) dX10_keep_4 (by decide) ?_
    refine V_icmp_lt_t (tgt := 11) dX10_keep_5 (by decide) (by rw [hn]; decide) ?_
    refine V_aload_n dX10_keep_11 rfl rfl ?_
    refine V_getI dX10_keep_12 fl_X10_117 (by first | assumption | exact ⟨by decide, rfl⟩) ?_
    refine V_if_ne_t (tgt := 25) dX10_keep_15 (by decide) (by rw [hn]; decide) ?_
    refine V_aload_n dX10_keep_25 rfl rfl ?_
    refine V_getR dX10_keep_26 fl_X10_40 (by first | assumption | exact ⟨by decide, rfl⟩) (by first | assumption | rfl) ?_
    refine V_astore_1 dX10_keep_29 (by decide) rfl (V_aload_n dX10_keep_30 rfl rfl (V_aload_n dX10_keep_31 rfl rfl ?_))
    refine V_getR dX10_keep_32 fl_X10_33 (by first | assumption | exact ⟨by decide, rfl⟩) (by first | assumption | rfl) ?_
    refine V_cV1v (M' := M_X4_copy) (d' := 1) dX10_keep_35 (Or.inl ml_X10_310) kb_X4_copy (by first | assumption | exact ⟨by decide, rfl⟩) (by first | decide | omega) (by simp [Value.category]) ⟨by decide, by decide⟩ ?_
    refine sp_diCopy (c := 38) (Or.inr (Or.inr rfl)) (Or.inl rfl) (by decide) hD.1 (fun I1 g1 g2 => ⟨rfl, ?_⟩)
    refine V_aload_n dX10_keep_38 rfl rfl (V_dup dX10_keep_39 rfl ?_)
    refine V_getI dX10_keep_40 fl_X10_117 (by first | assumption | exact ⟨by decide, rfl⟩) ?_
    refine V_iconst (v := 1) dX10_keep_43 (by decide) (V_iadd dX10_keep_44 ?_)
    refine V_putI dX10_keep_45 fl_X10_117 (by first | assumption | exact ⟨by decide, rfl⟩) ?_
    refine V_aload_n dX10_keep_48 rfl rfl ?_
    refine V_getI dX10_keep_49 fl_X10_117 (by first | assumption | exact ⟨by decide, rfl⟩) ?_
    refine V_ireturn dX10_keep_52 rfl rfl rfl (by decide) (by decide) ?_
    rw [u2e, g1 0 8 (by omega), hn]
    refine ⟨rfl, rfl, ⟨co, dr, cc, a1, a2, hw, rfl, hX.of (fun x y a b => by rw [u2n (by omega)]; exact g1 x y (by omega)), hS.of (fun b => ⟨by rw [u2n (by omega)]; exact g1 _ _ (by omega), by rw [u2n (by omega)]; exact g1 _ _ (by omega)⟩), hT.of (fun y => by rw [u2n (by omega)]; exact g1 _ _ (by omega)) (by rw [u2n (by omega)]; exact g1 _ _ (by omega)), ⟨hD.1.of (fun x y a b => by rw [u2n (by omega)]; exact g1 _ _ (by omega)), fun k => (hD.2.1 (by decide)).of (fun x y a b => by rw [u2n (by omega)]; exact g1 _ _ (by omega)), fun k => g2.of (fun x y a b => by rw [u2n (by omega)]), by rw [u2e]; rfl, fun q hq => by rw [u2n (by omega), g1 _ _ (by omega)]; exact hD.2.2.2.2 q hq⟩, hC.of (fun x y a b => by rw [u2n (by omega)]; exact g1 _ _ (by omega)) (fun _ => rfl)⟩, fun x y a => by rw [u2n (by omega)]; exact g1 _ _ (by omega), fun _ _ _ => rfl⟩
  · refine V_aload_n dX10_keep_0 rfl rfl ?_
    refine V_getI dX10_keep_1 fl_X10_117 (by first | assumption | exact ⟨by decide, rfl⟩) ?_
    refine V_iconst (v := 2) dX10_keep_4 (by decide) ?_
    refine V_icmp_lt_f (tgt := 11) dX10_keep_5 (by decide) (by rw [hn]; decide) ?_
    refine V_bipush (v := (-3)) dX10_keep_8 (by decide) ?_
    refine V_ireturn dX10_keep_10 rfl rfl rfl (by decide) (by decide) ?_
    exact OK.same h'
theorem op_back {d : Nat} (hd : 2 ≤ d) (hk : kp ≤ 2) (h : CS t len K D D1 D2 kp tl I J R) : Cal E d M_X10_back [.ref 0] NC I J R (OK t len K (bkD D D1 D2 kp) D1 D2 (kp - 1) tl (some (.int (a_back kp))) I J) := by
  have h' := h
  obtain ⟨co, dr, cc, a1, a2, hw, rfl, hX, hS, hT, hD, hC⟩ := h
  have hco := hw.co
  have hn := hD.2.2.2.1
  refine Cal_of kn_X10_back rfl (Nat.le_of_ble_eq_true rfl) ?_
  rcases (show kp = 0 ∨ kp = 1 ∨ kp = 2 by omega) with rfl | rfl | rfl
  · refine V_aload_n dX10_back_0 rfl rfl ?_
    refine V_getI dX10_back_1 fl_X10_117 (by first | assumption | exact ⟨by decide, rfl⟩) ?_
    refine V_if_gt_f (tgt := 10) dX10_back_4 (by decide) (by rw [hn]; decide) ?_
    refine V_bipush (v := (-2)) dX10_back_7 (by decide) ?_
    refine V_ireturn dX10_back_9 rfl rfl rfl (by decide) (by decide) ?_
    exact OK.same h'
  · refine V_aload_n dX10_back_0 rfl rfl ?_
    refine V_getI dX10_back_1 fl_X10_117 (by first | assumption | exact ⟨by decide, rfl⟩) ?_
    refine V_if_gt_t (tgt := 10) dX10_back_4 (by decide) (by rw [hn]; decide) ?_
    refine V_aload_n dX10_back_10 rfl rfl (V_dup dX10_back_11 rfl ?_)
    refine V_getI dX10_back_12 fl_X10_117 (by first | assumption | exact ⟨by decide, rfl⟩) ?_
    refine V_iconst (v := 1) dX10_back_15 (by decide) (V_isub dX10_back_16 ?_)
    refine V_putI dX10_back_17 fl_X10_117 (by first | assumption | exact ⟨by decide, rfl⟩) ?_
    refine V_aload_n dX10_back_20 rfl rfl ?_
    refine V_getI dX10_back_21 fl_X10_117 (by first | assumption | exact ⟨by decide, rfl⟩) ?_
    refine V_if_ne_f (tgt := 34) dX10_back_24 (by decide) (by rw [u2e, hn]; rfl) ?_
    refine V_aload_n dX10_back_27 rfl rfl ?_
    refine V_getR dX10_back_28 fl_X10_37 (by first | assumption | exact ⟨by decide, rfl⟩) (by first | assumption | rfl) ?_
    refine V_goto (tgt := 38) dX10_back_31 (by decide) (V_astore_1 dX10_back_38 (by decide) rfl (V_aload_n dX10_back_39 rfl rfl ?_))
    refine V_getR dX10_back_40 fl_X10_33 (by first | assumption | exact ⟨by decide, rfl⟩) (by first | assumption | rfl) ?_
    refine V_aload_n dX10_back_43 rfl rfl ?_
    refine V_cV1v (M' := M_X4_copy) (d' := 1) dX10_back_44 (Or.inl ml_X10_310) kb_X4_copy (by first | assumption | exact ⟨by decide, rfl⟩) (by first | decide | omega) (by simp [Value.category]) ⟨by decide, by decide⟩ ?_
    rw [hn]
    refine sp_diCopy (c := 32) (e := 35) (Or.inl rfl) (Or.inr (Or.inl rfl)) (by decide) ((hD.2.1 (by decide)).of (fun x y a b => by rw [u2n (by omega)])) (fun I1 g1 g2 => ⟨rfl, ?_⟩)
    refine V_aload_n dX10_back_47 rfl rfl ?_
    refine V_getI dX10_back_48 fl_X10_117 (by first | assumption | exact ⟨by decide, rfl⟩) ?_
    refine V_ireturn dX10_back_51 rfl rfl rfl (by decide) (by decide) ?_
    rw [g1 0 8 (by omega), u2e]
    refine ⟨rfl, rfl, ⟨co, dr, cc, a1, a2, hw, rfl, hX.of (fun x y a b => by rw [g1 x y (by omega), u2n (by omega)]), hS.of (fun b => ⟨by rw [g1 _ _ (by omega), u2n (by omega)], by rw [g1 _ _ (by omega), u2n (by omega)]⟩), hT.of (fun y => by rw [g1 _ _ (by omega), u2n (by omega)]) (by rw [g1 _ _ (by omega), u2n (by omega)]), ⟨g2, fun k => absurd k (by decide), fun k => absurd k (by decide), by rw [g1 _ _ (by omega), u2e]; rfl, fun q hq => by rw [g1 _ _ (by omega), u2n (by omega)]; exact hD.2.2.2.2 q hq⟩, hC.of (fun x y a b => by rw [g1 _ _ (by omega), u2n (by omega)]) (fun _ => rfl)⟩, fun x y a => by rw [g1 _ _ (by omega), u2n (by omega)], fun _ _ _ => rfl⟩
  · refine V_aload_n dX10_back_0 rfl rfl ?_
    refine V_getI dX10_back_1 fl_X10_117 (by first | assumption | exact ⟨by decide, rfl⟩) ?_
    refine V_if_gt_t (tgt := 10) dX10_back_4 (by decide) (by rw [hn]; decide) ?_
    refine V_aload_n dX10_back_10 rfl rfl (V_dup dX10_back_11 rfl ?_)
    refine V_getI dX10_back_12 fl_X10_117 (by first | assumption | exact ⟨by decide, rfl⟩) ?_
    refine V_iconst (v := 1) dX10_back_15 (by decide) (V_isub dX10_back_16 ?_)
    refine V_putI dX10_back_17 fl_X10_117 (by first | assumption | exact ⟨by decide, rfl⟩) ?_
    refine V_aload_n dX10_back_20 rfl rfl ?_
    refine V_getI dX10_back_21 fl_X10_117 (by first | assumption | exact ⟨by decide, rfl⟩) ?_
    refine V_if_ne_t (tgt := 34) dX10_back_24 (by decide) (by rw [u2e, hn]; decide) ?_
    refine V_aload_n dX10_back_34 rfl rfl ?_
    refine V_getR dX10_back_35 fl_X10_40 (by first | assumption | exact ⟨by decide, rfl⟩) (by first | assumption | rfl) ?_
    refine V_astore_1 dX10_back_38 (by decide) rfl (V_aload_n dX10_back_39 rfl rfl ?_)
    refine V_getR dX10_back_40 fl_X10_33 (by first | assumption | exact ⟨by decide, rfl⟩) (by first | assumption | rfl) ?_
    refine V_aload_n dX10_back_43 rfl rfl ?_
    refine V_cV1v (M' := M_X4_copy) (d' := 1) dX10_back_44 (Or.inl ml_X10_310) kb_X4_copy (by first | assumption | exact ⟨by decide, rfl⟩) (by first | decide | omega) (by simp [Value.category]) ⟨by decide, by decide⟩ ?_
    rw [hn]
    refine sp_diCopy (c := 32) (e := 38) (Or.inl rfl) (Or.inr (Or.inr rfl)) (by decide) ((hD.2.2.1 (by decide)).of (fun x y a b => by rw [u2n (by omega)])) (fun I1 g1 g2 => ⟨rfl, ?_⟩)
    refine V_aload_n dX10_back_47 rfl rfl ?_
    refine V_getI dX10_back_48 fl_X10_117 (by first | assumption | exact ⟨by decide, rfl⟩) ?_
    refine V_ireturn dX10_back_51 rfl rfl rfl (by decide) (by decide) ?_
    rw [g1 0 8 (by omega), u2e]
    refine ⟨rfl, rfl, ⟨co, dr, cc, a1, a2, hw, rfl, hX.of (fun x y a b => by rw [g1 x y (by omega), u2n (by omega)]), hS.of (fun b => ⟨by rw [g1 _ _ (by omega), u2n (by omega)], by rw [g1 _ _ (by omega), u2n (by omega)]⟩), hT.of (fun y => by rw [g1 _ _ (by omega), u2n (by omega)]) (by rw [g1 _ _ (by omega), u2n (by omega)]), ⟨g2, fun k => (hD.2.1 (by decide)).of (fun x y a b => by rw [g1 _ _ (by omega), u2n (by omega)]), fun k => absurd k (by decide), by rw [g1 _ _ (by omega), u2e]; rfl, fun q hq => by rw [g1 _ _ (by omega), u2n (by omega)]; exact hD.2.2.2.2 q hq⟩, hC.of (fun x y a b => by rw [g1 _ _ (by omega), u2n (by omega)]) (fun _ => rfl)⟩, fun x y a => by rw [g1 _ _ (by omega), u2n (by omega)], fun _ _ _ => rfl⟩
end
