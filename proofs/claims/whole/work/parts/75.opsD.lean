/-! Calls of the class: fewest, engaged, weak, ways, cuts -/
def kI (x : Int32) : Bool := decide (1 ≤ x.toInt ∧ x.toInt ≤ 2)
theorem kI_cl {x : Int32} (h : kI x = true) : (cl x = 1 ∨ cl x = 2) ∧ x = nI (cl x) := by
  have hx := of_decide_eq_true h
  obtain ⟨h1, h2⟩ := inR_cl (x := x) (n := 3) (decide_eq_true ⟨by omega, by omega⟩) (by omega)
  have h3 := hx.1
  rw [h2, nI_toInt (by omega)] at h3
  exact ⟨by omega, h2⟩
theorem w01 {x : Int32} (h0 : ¬ x < 0) (h1 : x ≤ 1) : inR x 2 = true := by
  refine decide_eq_true ⟨?_, ?_⟩
  · have := (not_congr Int32.lt_iff_toInt_lt).mp h0
    have e : (0 : Int32).toInt = 0 := by decide
    omega
  · have := Int32.le_iff_toInt_le.mp h1
    have e : (1 : Int32).toInt = 1 := by decide
    omega
theorem w01n {x : Int32} (h1 : ¬ x ≤ 1) : inR x 2 = false := by
  refine decide_eq_false (fun z => ?_)
  have := (not_congr Int32.le_iff_toInt_le).mp h1
  have e : (1 : Int32).toInt = 1 := by decide
  omega
theorem kIt {x : Int32} (h0 : ¬ x < 1) (h1 : ¬ 2 < x) : kI x = true := by
  refine decide_eq_true ⟨?_, ?_⟩
  · have := (not_congr Int32.lt_iff_toInt_lt).mp h0
    have e : (1 : Int32).toInt = 1 := by decide
    omega
  · have := (not_congr Int32.lt_iff_toInt_lt).mp h1
    have e : (2 : Int32).toInt = 2 := by decide
    omega
theorem kIf0 {x : Int32} (h0 : x < 1) : kI x = false := decide_eq_false (fun z => by
  have := Int32.lt_iff_toInt_lt.mp h0
  have e : (1 : Int32).toInt = 1 := by decide
  omega)
theorem kIf2 {x : Int32} (h0 : 2 < x) : kI x = false := decide_eq_false (fun z => by
  have := Int32.lt_iff_toInt_lt.mp h0
  have e : (2 : Int32).toInt = 2 := by decide
  omega)
noncomputable def a_weak (K : KT) (k w : Int32) : Int32 := if kI k && inR w 2 then (if cl w = 0 then nI (wW K (cl k)) else if 0 < wW K (cl k) then nI (wkn K (cl k) 0) else -4) else -1
noncomputable def a_eng (K : KT) (k w : Int32) : Int32 := if kI k && inR w 2 then (if cl w = 0 then engV (eng K (cl k) (ncv K)) else match eng K (cl k) (ncv K) with | none => -4 | some r => nI r.2) else -1
def a_ways (K : KT) (off cut : Int32) : Int64 := if inR off (2 ^ K 0 0) && inR cut (2 ^ K 0 1) then lN (CL (K 0 0) (okf K (cl off)) (ctf (cl cut)) (clashM K) (K 0 1) 0 (fun _ => 0)).length else 0
section
variable {E : En} {I I' : TI} {J J' : TJ} {R : TR} {t : Nat → Nat} {len : Nat} {K : KT} {D D1 D2 : Di} {kp : Nat} {tl : Nat → Int32} {co dr : Nat} {cc a1 a2 : Option Nat}
theorem CS.put (hw : SW co dr) (hX : CoX I co K) (hS : SX I co K) (hT : CTX I t len) (hD : CDI I D D1 D2 kp tl) (he : ∀ x y, x < 42 ∨ 69 < x → I' x y = I x y) (hC : CCA I' J' K) : CS t len K D D1 D2 kp tl I' J' (RR co dr cc a1 a2) := by
  have hco := hw.co
  exact ⟨co, dr, cc, a1, a2, hw, rfl, hX.of (fun x y a b => he x y (by omega)), hS.of (fun b => ⟨he _ _ (by omega), he _ _ (by omega)⟩), hT.of (fun y => he _ _ (by omega)) (he _ _ (by omega)), hD.of (fun x y a b => he _ _ (by omega)) (he _ _ (by omega)), hC⟩
theorem op_fewest {d : Nat} (hd : 16 ≤ d) (hB : KB K) (h : CS t len K D D1 D2 kp tl I J R) : Cal E d M_X10_fewest [.ref 0] NC I J R (OK t len K D D1 D2 kp tl (some (.int (fewV K))) I J) := by
  obtain ⟨co, dr, cc, a1, a2, hw, rfl, hX, hS, hT, hD, hC⟩ := h
  have hco := hw.co
  have hrc : RR co dr cc a1 a2 0 3 = some co := rfl
  obtain ⟨_, _, _, _, _, _, _, _, _, _, _, _, _, _, _, _, _, _, _, _, _, _, _⟩ := f_co (co := co) (dr := dr) (cc := cc) (a1 := a1) (a2 := a2) (hco)
  refine Cal_of kn_X10_fewest rfl (Nat.le_of_ble_eq_true rfl) ?_
  refine V_aload_n dX10_fewest_0 rfl rfl ?_
  refine V_getR dX10_fewest_1 fl_X10_64 (by first | assumption | exact ⟨by decide, rfl⟩) (by first | assumption | rfl) ?_
  refine V_aload_n dX10_fewest_4 rfl rfl ?_
  refine V_getR dX10_fewest_5 fl_X10_23 (by first | assumption | exact ⟨by decide, rfl⟩) (by first | assumption | rfl) ?_
  refine V_aload_n dX10_fewest_8 rfl rfl ?_
  refine V_getR dX10_fewest_9 fl_X10_57 (by first | assumption | exact ⟨by decide, rfl⟩) (by first | assumption | rfl) ?_
  refine V_iconst (v := 2) dX10_fewest_12 (by decide) ?_
  refine V_cV3v (M' := M_X9_survey) (d' := 15) dX10_fewest_13 (Or.inl ml_X10_280) kb_X9_survey (by first | assumption | exact ⟨by decide, rfl⟩) (by first | decide | omega) (by simp [Value.category]) ⟨by decide, by decide⟩ ?_
  refine sp_survey (k := 2) (by omega) hco hB hX hS hC.1 hC.2.1 (Or.inr rfl) (fun I1 J1 b1 b2 g1 g2 g3 g4 g5 g6 g7 g8 g9 => ⟨rfl, ?_⟩)
  have hX1 : CoX I1 co K := hX.of (fun x y a b => g1 x y (by omega))
  have hS1 : SX I1 co K := hS.of (fun b => ⟨g1 _ _ (by omega), g1 _ _ (by omega)⟩)
  have hrc2 : RR co dr cc b1 b2 0 3 = some co := rfl
  refine V_aload_n dX10_fewest_16 rfl rfl ?_
  refine V_getR dX10_fewest_17 fl_X10_64 (by first | assumption | exact ⟨by decide, rfl⟩) (by first | assumption | rfl) ?_
  refine V_aload_n dX10_fewest_20 rfl rfl ?_
  refine V_getR dX10_fewest_21 fl_X10_23 (by first | assumption | exact ⟨by decide, rfl⟩) (by first | assumption | rfl) ?_
  refine V_aload_n dX10_fewest_24 rfl rfl ?_
  refine V_getR dX10_fewest_25 fl_X10_57 (by first | assumption | exact ⟨by decide, rfl⟩) (by first | assumption | rfl) ?_
  refine V_cV2i (M' := M_X9_fewestForPairs) (d' := 15) dX10_fewest_28 (Or.inl ml_X10_293) kb_X9_fewestForPairs (by first | assumption | exact ⟨by decide, rfl⟩) (by first | decide | omega) (by simp [Value.category]) ⟨by decide, by decide⟩ ?_
  refine sp_fewestForPairs (by omega) hco hB hX1 hS1 g7 g6 g8 g5 g4 (hC.2.2.1.of (g1 _ _ (by omega)) (g1 _ _ (by omega))) (fun I2 c2 m1 m2 => ⟨_, rfl, ?_⟩)
  refine V_ireturn dX10_fewest_31 rfl rfl rfl (by decide) (by decide) ?_
  have fr : ∀ x y, x < 42 ∨ 69 < x → I2 x y = I x y := fun x y hx => by rw [m1 x y (by omega) (by omega) (by omega), g1 x y (by omega)]
  refine ⟨rfl, rfl, CS.put hw hX hS hT hD fr ⟨g3.of (fun b => m1 _ _ (by omega) (by omega) (by omega)), g9.of (m1 _ _ (by omega) (by omega) (by omega)) (fun _ => rfl), m2, hC.2.2.2.of (fun y => by rw [m1 _ _ (by omega) (by omega) (by omega), g1 _ _ (by omega)]) (fun y => by rw [m1 _ _ (by omega) (by omega) (by omega), g1 _ _ (by omega)])⟩, fun x y hx => fr x y (by omega), g2⟩
theorem op_engaged {d : Nat} (hd : 16 ≤ d) (hB : KB K) (h : CS t len K D D1 D2 kp tl I J R) {k w : Int32} : Cal E d M_X10_engaged [.ref 0, .int k, .int w] NC I J R (OK t len K D D1 D2 kp tl (some (.int (a_eng K k w))) I J) := by
  have h' := h
  obtain ⟨co, dr, cc, a1, a2, hw, rfl, hX, hS, hT, hD, hC⟩ := h
  have hco := hw.co
  have hrc : RR co dr cc a1 a2 0 3 = some co := rfl
  obtain ⟨_, _, _, _, _, _, _, _, _, _, _, _, _, _, _, _, _, _, _, _, _, _, _⟩ := f_co (co := co) (dr := dr) (cc := cc) (a1 := a1) (a2 := a2) (hco)
  have hpw : 2 ^ K 0 0 ≤ 1024 := Nat.pow_le_pow_right (n := 2) (by decide) hB.1.1
  refine Cal_of kn_X10_engaged rfl (Nat.le_of_ble_eq_true rfl) ?_
  by_cases k1 : k < 1
  · refine V_iload_n dX10_engaged_0 rfl rfl (V_iconst (v := 1) dX10_engaged_1 (by decide) ?_)
    refine V_icmp_lt_t (tgt := 19) dX10_engaged_2 (by decide) (k1) ?_
    refine V_iconst (v := (-1)) dX10_engaged_19 (by decide) ?_
    refine V_ireturn dX10_engaged_20 rfl rfl rfl (by decide) (by decide) ?_
    rw [a_eng, kIf0 k1]; exact OK.same h'
  by_cases k2 : 2 < k
  · refine V_iload_n dX10_engaged_0 rfl rfl (V_iconst (v := 1) dX10_engaged_1 (by decide) ?_)
    refine V_icmp_lt_f (tgt := 19) dX10_engaged_2 (by decide) (k1) ?_
    refine V_iload_n dX10_engaged_5 rfl rfl (V_iconst (v := 2) dX10_engaged_6 (by decide) ?_)
    refine V_icmp_gt_t (tgt := 19) dX10_engaged_7 (by decide) (k2) ?_
    refine V_iconst (v := (-1)) dX10_engaged_19 (by decide) ?_
    refine V_ireturn dX10_engaged_20 rfl rfl rfl (by decide) (by decide) ?_
    rw [a_eng, kIf2 k2]; exact OK.same h'
  by_cases w0 : w < 0
  · refine V_iload_n dX10_engaged_0 rfl rfl (V_iconst (v := 1) dX10_engaged_1 (by decide) ?_)
    refine V_icmp_lt_f (tgt := 19) dX10_engaged_2 (by decide) (k1) ?_
    refine V_iload_n dX10_engaged_5 rfl rfl (V_iconst (v := 2) dX10_engaged_6 (by decide) ?_)
    refine V_icmp_gt_f (tgt := 19) dX10_engaged_7 (by decide) (k2) ?_
    refine V_iload_n dX10_engaged_10 rfl rfl ?_
    refine V_if_lt_t (tgt := 19) dX10_engaged_11 (by decide) (w0) ?_
    refine V_iconst (v := (-1)) dX10_engaged_19 (by decide) ?_
    refine V_ireturn dX10_engaged_20 rfl rfl rfl (by decide) (by decide) ?_
    rw [a_eng, inR_lt w0, Bool.and_false]; exact OK.same h'
  by_cases w1 : w ≤ 1
  · have hk := kIt k1 k2
    have hwr := w01 w0 w1
    obtain ⟨q1, q2⟩ := kI_cl hk
    obtain ⟨q3, q4⟩ := inR_cl hwr (by omega)
    rw [a_eng, hk, hwr]
    generalize hkk : cl k = kk at *
    generalize hww : cl w = ww at *
    subst q2 q4
    refine V_iload_n dX10_engaged_0 rfl rfl (V_iconst (v := 1) dX10_engaged_1 (by decide) ?_)
    refine V_icmp_lt_f (tgt := 19) dX10_engaged_2 (by decide) (k1) ?_
    refine V_iload_n dX10_engaged_5 rfl rfl (V_iconst (v := 2) dX10_engaged_6 (by decide) ?_)
    refine V_icmp_gt_f (tgt := 19) dX10_engaged_7 (by decide) (k2) ?_
    refine V_iload_n dX10_engaged_10 rfl rfl ?_
    refine V_if_lt_f (tgt := 19) dX10_engaged_11 (by decide) (w0) ?_
    refine V_iload_n dX10_engaged_14 rfl rfl (V_iconst (v := 1) dX10_engaged_15 (by decide) ?_)
    refine V_icmp_le_t (tgt := 21) dX10_engaged_16 (by decide) (w1) ?_
    refine V_aload_n dX10_engaged_21 rfl rfl ?_
    refine V_getR dX10_engaged_22 fl_X10_64 (by first | assumption | exact ⟨by decide, rfl⟩) (by first | assumption | rfl) ?_
    refine V_aload_n dX10_engaged_25 rfl rfl ?_
    refine V_getR dX10_engaged_26 fl_X10_23 (by first | assumption | exact ⟨by decide, rfl⟩) (by first | assumption | rfl) ?_
    refine V_aload_n dX10_engaged_29 rfl rfl ?_
    refine V_getR dX10_engaged_30 fl_X10_57 (by first | assumption | exact ⟨by decide, rfl⟩) (by first | assumption | rfl) ?_
    refine V_iload_n dX10_engaged_33 rfl rfl ?_
    refine V_cV3v (M' := M_X9_survey) (d' := 15) dX10_engaged_34 (Or.inl ml_X10_280) kb_X9_survey (by first | assumption | exact ⟨by decide, rfl⟩) (by first | decide | omega) (by simp [Value.category]) ⟨by decide, by decide⟩ ?_
    refine sp_survey (k := kk) (by omega) hco hB hX hS hC.1 hC.2.1 q1 (fun I1 J1 b1 b2 g1 g2 g3 g4 g5 g6 g7 g8 g9 => ⟨rfl, ?_⟩)
    refine V_aload_n dX10_engaged_37 rfl rfl ?_
    refine V_getR dX10_engaged_38 fl_X10_64 (by first | assumption | exact ⟨by decide, rfl⟩) (by first | assumption | rfl) ?_
    refine V_iload_n dX10_engaged_41 rfl rfl (V_aload_n dX10_engaged_42 rfl rfl ?_)
    refine V_getR dX10_engaged_43 fl_X10_57 (by first | assumption | exact ⟨by decide, rfl⟩) (by first | assumption | rfl) ?_
    refine V_getI dX10_engaged_46 fl_X10_274 (by first | assumption | exact ⟨by decide, rfl⟩) ?_
    refine V_cV2v (M' := M_X9_findBest) (d' := 2) dX10_engaged_49 (Or.inl ml_X10_284) kb_X9_findBest (by first | assumption | exact ⟨by decide, rfl⟩) (by first | decide | omega) (by simp [Value.category]) ⟨by decide, by decide⟩ ?_
    rw [g4]
    refine sp_findBest (by omega) hB q1 g7 g6 g8 (fun I2 m1 m2 m3 => ⟨rfl, ?_⟩)
    have fr : ∀ x y, x < 42 ∨ 69 < x → I2 x y = I x y := fun x y hx => by rw [m1 x y (by omega), g1 x y (by omega)]
    have hcs : CS t len K D D1 D2 kp tl I2 J1 (RR co dr cc b1 b2) := CS.put hw hX hS hT hD fr ⟨g3.of (fun b => m1 _ _ (by omega)), g9.of (m1 _ _ (by omega)) (fun _ => rfl), hC.2.2.1.of (by rw [m1 _ _ (by omega), g1 _ _ (by omega)]) (by rw [m1 _ _ (by omega), g1 _ _ (by omega)]), hC.2.2.2.of (fun y => by rw [m1 _ _ (by omega), g1 _ _ (by omega)]) (fun y => by rw [m1 _ _ (by omega), g1 _ _ (by omega)])⟩
    rcases (show ww = 0 ∨ ww = 1 by omega) with rfl | rfl
    · refine V_iload_n dX10_engaged_52 rfl rfl ?_
      refine V_if_eq_t (tgt := 68) dX10_engaged_53 (by decide) (nI_0) ?_
      refine V_aload_n dX10_engaged_68 rfl rfl ?_
      refine V_getR dX10_engaged_69 fl_X10_64 (by first | assumption | exact ⟨by decide, rfl⟩) (by first | assumption | rfl) ?_
      refine V_getI dX10_engaged_72 fl_X10_287 (by first | assumption | exact ⟨by decide, rfl⟩) ?_
      refine V_goto (tgt := 85) dX10_engaged_75 (by decide) ?_
      refine V_ireturn dX10_engaged_85 rfl rfl rfl (by decide) (by decide) ?_
      rw [m2]
      exact ⟨rfl, rfl, hcs, fun x y hx => fr x y (by omega), g2⟩
    · cases he : eng K kk (ncv K) with
      | none =>
        refine V_iload_n dX10_engaged_52 rfl rfl ?_
        refine V_if_eq_f (tgt := 68) dX10_engaged_53 (by decide) (by decide) ?_
        refine V_aload_n dX10_engaged_56 rfl rfl ?_
        refine V_getR dX10_engaged_57 fl_X10_64 (by first | assumption | exact ⟨by decide, rfl⟩) (by first | assumption | rfl) ?_
        refine V_getI dX10_engaged_60 fl_X10_287 (by first | assumption | exact ⟨by decide, rfl⟩) ?_
        refine V_bipush (v := (-4)) dX10_engaged_63 (by decide) ?_
        refine V_icmp_ne_f (tgt := 78) dX10_engaged_65 (by decide) (by rw [m2, he]; rfl) ?_
        refine V_aload_n dX10_engaged_68 rfl rfl ?_
        refine V_getR dX10_engaged_69 fl_X10_64 (by first | assumption | exact ⟨by decide, rfl⟩) (by first | assumption | rfl) ?_
        refine V_getI dX10_engaged_72 fl_X10_287 (by first | assumption | exact ⟨by decide, rfl⟩) ?_
        refine V_goto (tgt := 85) dX10_engaged_75 (by decide) ?_
        refine V_ireturn dX10_engaged_85 rfl rfl rfl (by decide) (by decide) ?_
        rw [m2, he]
        exact ⟨rfl, rfl, hcs, fun x y hx => fr x y (by omega), g2⟩
      | some r =>
        have hr := eng_in (Nat.le_refl _) r he
        have hP := hB.1.1
        refine V_iload_n dX10_engaged_52 rfl rfl ?_
        refine V_if_eq_f (tgt := 68) dX10_engaged_53 (by decide) (by decide) ?_
        refine V_aload_n dX10_engaged_56 rfl rfl ?_
        refine V_getR dX10_engaged_57 fl_X10_64 (by first | assumption | exact ⟨by decide, rfl⟩) (by first | assumption | rfl) ?_
        refine V_getI dX10_engaged_60 fl_X10_287 (by first | assumption | exact ⟨by decide, rfl⟩) ?_
        refine V_bipush (v := (-4)) dX10_engaged_63 (by decide) ?_
        refine V_icmp_ne_t (tgt := 78) dX10_engaged_65 (by decide) (by rw [m2, he]; exact nI_ne4 (by omega)) ?_
        refine V_aload_n dX10_engaged_78 rfl rfl ?_
        refine V_getR dX10_engaged_79 fl_X10_64 (by first | assumption | exact ⟨by decide, rfl⟩) (by first | assumption | rfl) ?_
        refine V_getI dX10_engaged_82 fl_X10_290 (by first | assumption | exact ⟨by decide, rfl⟩) ?_
        refine V_ireturn dX10_engaged_85 rfl rfl rfl (by decide) (by decide) ?_
        rw [m3 r he]
        exact ⟨rfl, rfl, hcs, fun x y hx => fr x y (by omega), g2⟩
  · refine V_iload_n dX10_engaged_0 rfl rfl (V_iconst (v := 1) dX10_engaged_1 (by decide) ?_)
    refine V_icmp_lt_f (tgt := 19) dX10_engaged_2 (by decide) (k1) ?_
    refine V_iload_n dX10_engaged_5 rfl rfl (V_iconst (v := 2) dX10_engaged_6 (by decide) ?_)
    refine V_icmp_gt_f (tgt := 19) dX10_engaged_7 (by decide) (k2) ?_
    refine V_iload_n dX10_engaged_10 rfl rfl ?_
    refine V_if_lt_f (tgt := 19) dX10_engaged_11 (by decide) (w0) ?_
    refine V_iload_n dX10_engaged_14 rfl rfl (V_iconst (v := 1) dX10_engaged_15 (by decide) ?_)
    refine V_icmp_le_f (tgt := 21) dX10_engaged_16 (by decide) (w1) ?_
    refine V_iconst (v := (-1)) dX10_engaged_19 (by decide) ?_
    refine V_ireturn dX10_engaged_20 rfl rfl rfl (by decide) (by decide) ?_
    rw [a_eng, w01n w1, Bool.and_false]; exact OK.same h'
theorem op_ways {d : Nat} (hd : 14 ≤ d) (hB : KB K) (h : CS t len K D D1 D2 kp tl I J R) {off cut : Int32} : Cal E d M_X10_ways [.ref 0, .int off, .int cut] NC I J R (OK t len K D D1 D2 kp tl (some (.long (a_ways K off cut))) I J) := by
  have h' := h
  obtain ⟨co, dr, cc, a1, a2, hw, rfl, hX, hS, hT, hD, hC⟩ := h
  have hco := hw.co
  have hP := hB.1.1
  have hQ := hB.1.2.1
  have hpw : 2 ^ K 0 0 ≤ 1024 := Nat.pow_le_pow_right (n := 2) (by decide) hP
  have hqw : 2 ^ K 0 1 ≤ 256 := Nat.pow_le_pow_right (n := 2) (by decide) hQ
  have hrc : RR co dr cc a1 a2 0 3 = some co := rfl
  obtain ⟨_, _, _, _, _, _, _, _, _, _, _, _, _, _, _, _, _, _, _, _, _, _, _⟩ := f_co (co := co) (dr := dr) (cc := cc) (a1 := a1) (a2 := a2) (hco)
  refine Cal_of kn_X10_ways rfl (Nat.le_of_ble_eq_true rfl) ?_
  refine V_aload_n dX10_ways_0 rfl rfl ?_
  refine V_getR dX10_ways_1 fl_X10_23 (by first | assumption | exact ⟨by decide, rfl⟩) (by first | assumption | rfl) ?_
  refine V_iload_n dX10_ways_4 rfl rfl ?_
  refine V_cV1i (M' := M_X3_hasPlayers) (d' := 1) dX10_ways_5 (Or.inl ml_X10_184) kb_X3_hasPlayers (by first | assumption | exact ⟨by decide, rfl⟩) (by first | decide | omega) (by simp [Value.category]) ⟨by decide, by decide⟩ ?_
  refine sp_hasPlayers hco hX.1.1 hP ⟨_, rfl, ?_⟩
  cases hv : inR off (2 ^ K 0 0)
  · refine V_if_eq_t (tgt := 22) dX10_ways_8 (by decide) (rfl) ?_
    refine V_lconst (v := 0) dX10_ways_22 rfl ?_
    refine V_lreturn dX10_ways_23 rfl rfl (by decide) (by decide) ?_
    rw [a_ways, hv]; exact OK.same h'
  · obtain ⟨q1, q2⟩ := inR_cl hv (by omega)
    refine V_if_eq_f (tgt := 22) dX10_ways_8 (by decide) (by decide) ?_
    refine V_aload_n dX10_ways_11 rfl rfl ?_
    refine V_getR dX10_ways_12 fl_X10_23 (by first | assumption | exact ⟨by decide, rfl⟩) (by first | assumption | rfl) ?_
    refine V_iload_n dX10_ways_15 rfl rfl ?_
    refine V_cV1i (M' := M_X3_hasParts) (d' := 1) dX10_ways_16 (Or.inl ml_X10_187) kb_X3_hasParts (by first | assumption | exact ⟨by decide, rfl⟩) (by first | decide | omega) (by simp [Value.category]) ⟨by decide, by decide⟩ ?_
    refine sp_hasParts hco hX.1.2.1 (by omega) ⟨_, rfl, ?_⟩
    cases hv2 : inR cut (2 ^ K 0 1)
    · refine V_if_ne_f (tgt := 24) dX10_ways_19 (by decide) (rfl) ?_
      refine V_lconst (v := 0) dX10_ways_22 rfl ?_
      refine V_lreturn dX10_ways_23 rfl rfl (by decide) (by decide) ?_
      rw [a_ways, hv, hv2]; exact OK.same h'
    · obtain ⟨q3, q4⟩ := inR_cl hv2 (by omega)
      rw [a_ways, hv, hv2]
      generalize hkk : cl off = kk at *
      generalize hww : cl cut = ww at *
      subst q2 q4
      refine V_if_ne_t (tgt := 24) dX10_ways_19 (by decide) (by decide) ?_
      refine V_aload_n dX10_ways_24 rfl rfl ?_
      refine V_getR dX10_ways_25 fl_X10_50 (by first | assumption | exact ⟨by decide, rfl⟩) (by first | assumption | rfl) ?_
      refine V_aload_n dX10_ways_28 rfl rfl ?_
      refine V_getR dX10_ways_29 fl_X10_23 (by first | assumption | exact ⟨by decide, rfl⟩) (by first | assumption | rfl) ?_
      refine V_iload_n dX10_ways_32 rfl rfl (V_iload_n dX10_ways_33 rfl rfl ?_)
      refine V_cV3l (M' := M_X2_countCastings) (d' := 13) dX10_ways_34 (Or.inl ml_X10_190) kb_X2_countCastings (by first | assumption | exact ⟨by decide, rfl⟩) (by first | decide | omega) (by simp [Value.category]) ⟨by decide, by decide⟩ ?_
      refine sp_countCastings hco hB hX hS (by omega) (fun I1 g1 g2 => ⟨_, rfl, ?_⟩)
      refine V_lreturn dX10_ways_37 rfl rfl (by decide) (by decide) ?_
      refine ⟨rfl, rfl, CS.put hw hX hS hT hD (fun x y hx => g1 x y (by omega) (by omega)) (hC.of (fun x y a b => g1 x y (by omega) (by omega)) (fun _ => rfl)), fun x y hx => g1 x y (by omega) (by omega), fun _ _ _ => rfl⟩
end
