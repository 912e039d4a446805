/-! Calls of the class: rehearse, run -/
def offR (z mask i : Nat) : Nat := ((z + i) * 37 % 1024) &&& mask
noncomputable def rnF (K : KT) (z mask n : Nat) : Nat → Nat → Nat
  | 0, _ => n
  | r + 1, i => if metB K (offR z mask i) 0 then rnF K z mask n r (i + 1) else i
def nR (x : Int32) : Bool := decide (1 ≤ x.toInt ∧ x.toInt ≤ 20)
noncomputable def a_run (K : KT) (n z m : Int32) : Int32 := if nR n && (inR z 1000 && inR m (2 ^ K 0 0)) then nI (rnF K (cl z) (cl m) (cl n) (cl n) 0) else -1
theorem nR_cl {x : Int32} (h : nR x = true) : (1 ≤ cl x ∧ cl x ≤ 20) ∧ x = nI (cl x) := by
  have hx := of_decide_eq_true h
  obtain ⟨h1, h2⟩ := inR_cl (x := x) (n := 21) (decide_eq_true ⟨by omega, by omega⟩) (by omega)
  have h3 := hx.1
  rw [h2, nI_toInt (by omega)] at h3
  exact ⟨by omega, h2⟩
section
variable {E : En} {I I' : TI} {J J' : TJ} {R : TR} {t : Nat → Nat} {len : Nat} {K : KT} {D D1 D2 : Di} {kp : Nat} {tl : Nat → Int32} {co dr : Nat} {cc a1 a2 : Option Nat}
theorem op_run {d : Nat} (hd : 14 ≤ d) (hB : KB K) (h : CS t len K D D1 D2 kp tl I J R) {n z m : Int32} : Cal E d M_X10_run [.ref 0, .int n, .int z, .int m] NC I J R (OK t len K D D1 D2 kp tl (some (.int (a_run K n z m))) I J) := by
  have h' := h
  obtain ⟨co, dr, cc, a1, a2, hw, rfl, hX, hS, hT, hD, hC⟩ := h
  have hco := hw.co
  have hP := hB.1.1
  have hpw : 2 ^ K 0 0 ≤ 1024 := Nat.pow_le_pow_right (n := 2) (by decide) hP
  have hrc : RR co dr cc a1 a2 0 3 = some co := rfl
  have e1 : (1 : Int32).toInt = 1 := by decide
  have e20 : (20 : Int32).toInt = 20 := by decide
  have e999 : (999 : Int32).toInt = 999 := by decide
  obtain ⟨_, _, _, _, _, _, _, _, _, _, _, _, _, _, _, _, _, _, _, _, _, _, _⟩ := f_co (co := co) (dr := dr) (cc := cc) (a1 := a1) (a2 := a2) (hco)
  refine Cal_of kn_X10_run rfl (Nat.le_of_ble_eq_true rfl) ?_
  by_cases n1 : n < 1
  · have hr : nR n = false := decide_eq_false (fun q => by have := Int32.lt_iff_toInt_lt.mp n1; omega)
    refine V_iload_n dX10_run_0 rfl rfl (V_iconst (v := 1) dX10_run_1 (by decide) ?_)
    refine V_icmp_lt_t (tgt := 33) dX10_run_2 (by decide) (n1) ?_
    refine V_iconst (v := (-1)) dX10_run_33 (by decide) ?_
    refine V_ireturn dX10_run_34 rfl rfl rfl (by decide) (by decide) ?_
    rw [a_run, hr]; exact OK.same h'
  by_cases n2 : 20 < n
  · have hr : nR n = false := decide_eq_false (fun q => by have := Int32.lt_iff_toInt_lt.mp n2; omega)
    refine V_iload_n dX10_run_0 rfl rfl (V_iconst (v := 1) dX10_run_1 (by decide) ?_)
    refine V_icmp_lt_f (tgt := 33) dX10_run_2 (by decide) (n1) ?_
    refine V_iload_n dX10_run_5 rfl rfl (V_bipush (v := 20) dX10_run_6 (by decide) ?_)
    refine V_icmp_gt_t (tgt := 33) dX10_run_8 (by decide) (n2) ?_
    refine V_iconst (v := (-1)) dX10_run_33 (by decide) ?_
    refine V_ireturn dX10_run_34 rfl rfl rfl (by decide) (by decide) ?_
    rw [a_run, hr]; exact OK.same h'
  have hr : nR n = true := decide_eq_true (by
    have q1 := (not_congr Int32.lt_iff_toInt_lt).mp n1
    have q2 := (not_congr Int32.lt_iff_toInt_lt).mp n2
    omega)
  by_cases z0 : z < 0
  · refine V_iload_n dX10_run_0 rfl rfl (V_iconst (v := 1) dX10_run_1 (by decide) ?_)
    refine V_icmp_lt_f (tgt := 33) dX10_run_2 (by decide) (n1) ?_
    refine V_iload_n dX10_run_5 rfl rfl (V_bipush (v := 20) dX10_run_6 (by decide) ?_)
    refine V_icmp_gt_f (tgt := 33) dX10_run_8 (by decide) (n2) ?_
    refine V_iload_n dX10_run_11 rfl rfl ?_
    refine V_if_lt_t (tgt := 33) dX10_run_12 (by decide) (z0) ?_
    refine V_iconst (v := (-1)) dX10_run_33 (by decide) ?_
    refine V_ireturn dX10_run_34 rfl rfl rfl (by decide) (by decide) ?_
    rw [a_run, hr, inR_lt z0]; exact OK.same h'
  by_cases z1 : 999 < z
  · have hz : inR z 1000 = false := decide_eq_false (fun q => by have := Int32.lt_iff_toInt_lt.mp z1; omega)
    refine V_iload_n dX10_run_0 rfl rfl (V_iconst (v := 1) dX10_run_1 (by decide) ?_)
    refine V_icmp_lt_f (tgt := 33) dX10_run_2 (by decide) (n1) ?_
    refine V_iload_n dX10_run_5 rfl rfl (V_bipush (v := 20) dX10_run_6 (by decide) ?_)
    refine V_icmp_gt_f (tgt := 33) dX10_run_8 (by decide) (n2) ?_
    refine V_iload_n dX10_run_11 rfl rfl ?_
    refine V_if_lt_f (tgt := 33) dX10_run_12 (by decide) (z0) ?_
    refine V_iload_n dX10_run_15 rfl rfl (V_sipush (v := 999) dX10_run_16 (by decide) ?_)
    refine V_icmp_gt_t (tgt := 33) dX10_run_19 (by decide) (z1) ?_
    refine V_iconst (v := (-1)) dX10_run_33 (by decide) ?_
    refine V_ireturn dX10_run_34 rfl rfl rfl (by decide) (by decide) ?_
    rw [a_run, hr, hz]; exact OK.same h'
  have hz : inR z 1000 = true := decide_eq_true (by
    have q1 := (not_congr Int32.lt_iff_toInt_lt).mp z0
    have q2 := (not_congr Int32.lt_iff_toInt_lt).mp z1
    have e0 : (0 : Int32).toInt = 0 := by decide
    omega)
  refine V_iload_n dX10_run_0 rfl rfl (V_iconst (v := 1) dX10_run_1 (by decide) ?_)
  refine V_icmp_lt_f (tgt := 33) dX10_run_2 (by decide) (n1) ?_
  refine V_iload_n dX10_run_5 rfl rfl (V_bipush (v := 20) dX10_run_6 (by decide) ?_)
  refine V_icmp_gt_f (tgt := 33) dX10_run_8 (by decide) (n2) ?_
  refine V_iload_n dX10_run_11 rfl rfl ?_
  refine V_if_lt_f (tgt := 33) dX10_run_12 (by decide) (z0) ?_
  refine V_iload_n dX10_run_15 rfl rfl (V_sipush (v := 999) dX10_run_16 (by decide) ?_)
  refine V_icmp_gt_f (tgt := 33) dX10_run_19 (by decide) (z1) ?_
  refine V_aload_n dX10_run_22 rfl rfl ?_
  refine V_getR dX10_run_23 fl_X10_23 (by first | assumption | exact ⟨by decide, rfl⟩) (by first | assumption | rfl) ?_
  refine V_iload_n dX10_run_26 rfl rfl ?_
  refine V_cV1i (M' := M_X3_hasPlayers) (d' := 1) dX10_run_27 (Or.inl ml_X10_184) kb_X3_hasPlayers (by first | assumption | exact ⟨by decide, rfl⟩) (by first | decide | omega) (by simp [Value.category]) ⟨by decide, by decide⟩ ?_
  refine sp_hasPlayers hco hX.1.1 hP ⟨_, rfl, ?_⟩
  cases hv : inR m (2 ^ K 0 0)
  · refine V_if_ne_f (tgt := 35) dX10_run_30 (by decide) (rfl) ?_
    refine V_iconst (v := (-1)) dX10_run_33 (by decide) ?_
    refine V_ireturn dX10_run_34 rfl rfl rfl (by decide) (by decide) ?_
    rw [a_run, hv, Bool.and_false, Bool.and_false]; exact OK.same h'
  · obtain ⟨p1, p2⟩ := nR_cl hr
    obtain ⟨p3, p4⟩ := inR_cl hz (by omega)
    obtain ⟨p5, p6⟩ := inR_cl hv (by omega)
    rw [a_run, hr, hz, hv]
    generalize hkk : cl n = nn at *
    generalize hww : cl z = zz at *
    generalize hmm : cl m = mm at *
    subst p2 p4 p6
    refine V_if_ne_t (tgt := 35) dX10_run_30 (by decide) (by decide) ?_
    refine V_iconst (v := 0) dX10_run_35 (by decide) (V_istore_4 dX10_run_36 (by decide) rfl ?_)
    have key : ∀ r i, i + r = nn → ∀ (I1 : TI) (b1 : Option Nat) (o5 : Option Value), (∀ x y, x ≠ 49 → x ≠ 50 → x ≠ 51 → I1 x y = I x y) → ANS I1 K → V E d M_X10_run (OK t len K D D1 D2 kp tl (some (.int (nI (rnF K zz mm nn r i)))) I J) 38 [some (.ref 0), some (.int (nI nn)), some (.int (nI zz)), some (.int (nI mm)), some (.int (nI i)), o5] [] NC 0 0 I1 J (RR co dr cc b1 a2) := by
      have fin : ∀ (I1 : TI) (b1 : Option Nat) (v : Option Value), (∀ x y, x ≠ 49 → x ≠ 50 → x ≠ 51 → I1 x y = I x y) → ANS I1 K → OK t len K D D1 D2 kp tl v I J v NC I1 J (RR co dr cc b1 a2) := fun I1 b1 v g1 g2 => ⟨rfl, rfl, CS.put hw hX hS hT hD (fun x y hx => g1 x y (by omega) (by omega) (by omega)) ⟨g2, hC.2.1.of (g1 _ _ (by omega) (by omega) (by omega)) (fun _ => rfl), hC.2.2.1.of (g1 _ _ (by omega) (by omega) (by omega)) (g1 _ _ (by omega) (by omega) (by omega)), hC.2.2.2.of (fun y => g1 _ _ (by omega) (by omega) (by omega)) (fun y => g1 _ _ (by omega) (by omega) (by omega))⟩, fun x y hx => g1 x y (by omega) (by omega) (by omega), fun _ _ _ => rfl⟩
      intro r
      induction r with
      | zero =>
        intro i hi I1 b1 o5 g1 g2
        refine V_iload dX10_run_38 rfl (V_iload_n dX10_run_40 rfl rfl ?_)
        refine V_icmp_ge_t (tgt := 84) dX10_run_41 (by decide) (nI_le (by omega) (by omega)) ?_
        refine V_iload_n dX10_run_84 rfl rfl ?_
        refine V_ireturn dX10_run_85 rfl rfl rfl (by decide) (by decide) ?_
        exact fin I1 b1 _ g1 g2
      | succ r ih =>
        intro i hi I1 b1 o5 g1 g2
        have hX1 : CoX I1 co K := hX.of (fun x y a b => g1 x y (by omega) (by omega) (by omega))
        have hS1 : SX I1 co K := hS.of (fun b => ⟨g1 _ _ (by omega) (by omega) (by omega), g1 _ _ (by omega) (by omega) (by omega)⟩)
        have hrc2 : RR co dr cc b1 a2 0 3 = some co := rfl
        have hoff : offR zz mm i < 2 ^ K 0 0 := Nat.lt_of_le_of_lt Nat.and_le_right p5
        refine V_iload dX10_run_38 rfl (V_iload_n dX10_run_40 rfl rfl ?_)
        refine V_icmp_ge_f (tgt := 84) dX10_run_41 (by decide) (nI_ge (by omega) (by omega)) ?_
        refine V_iload_n dX10_run_44 rfl rfl (V_iload dX10_run_45 rfl (V_iadd dX10_run_47 (V_bipush (v := 37) dX10_run_48 (by decide) (V_imul dX10_run_50 (V_sipush (v := 1024) dX10_run_51 (by decide) ?_)))))
        refine V_irem dX10_run_54 (by decide) (V_iload_n dX10_run_55 rfl rfl (V_iand dX10_run_56 (V_istore_5 dX10_run_57 (by decide) rfl (V_aload_n dX10_run_59 rfl rfl ?_))))
        refine V_getR dX10_run_60 fl_X10_57 (by first | assumption | exact ⟨by decide, rfl⟩) (by first | assumption | rfl) ?_
        refine V_aload_n dX10_run_63 rfl rfl ?_
        refine V_getR dX10_run_64 fl_X10_23 (by first | assumption | exact ⟨by decide, rfl⟩) (by first | assumption | rfl) ?_
        refine V_iload dX10_run_67 rfl ?_
        refine V_cV2i (M' := M_X0_isMet) (d' := 13) dX10_run_69 (Or.inl ml_X10_306) kb_X0_isMet (by first | assumption | exact ⟨by decide, rfl⟩) (by first | decide | omega) (by simp [Value.category]) ⟨by decide, by decide⟩ ?_
        rw [nI_add, show (37 : Int32) = nI 37 from rfl, show (1024 : Int32) = nI 1024 from rfl, pk_mul, pk_rem (by omega) (by omega) (by omega), and_nI]
        refine sp_isMet (off := offR zz mm i) (by omega) hco hB hX1 hS1 g2 hoff (fun I2 c1 m1 m2 => ⟨_, rfl, ?_⟩)
        have m12 : ∀ x y, x ≠ 49 → x ≠ 50 → x ≠ 51 → I2 x y = I x y := fun x y h1 h2 h3 => by rw [m1 x y h1 h2 h3]; exact g1 x y h1 h2 h3
        cases hm : metB K (offR zz mm i) 0
        · refine V_if_ne_f (tgt := 78) dX10_run_72 (by decide) (rfl) ?_
          refine V_iload dX10_run_75 rfl ?_
          refine V_ireturn dX10_run_77 rfl rfl rfl (by decide) (by decide) ?_
          rw [rnF, hm]
          exact fin I2 c1 _ m12 m2
        · refine V_if_ne_t (tgt := 78) dX10_run_72 (by decide) (by decide) ?_
          refine V_iinc_4 (w := 1) dX10_run_78 (by decide) (by decide) rfl (V_goto (tgt := 38) dX10_run_81 (by decide) ?_)
          rw [nI_1, rnF, hm]
          exact ih (i + 1) (by omega) I2 c1 _ m12 m2
    exact key nn 0 (by omega) I a1 _ (fun _ _ _ _ _ => rfl) hC.1
end
