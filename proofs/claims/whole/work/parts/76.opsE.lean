/-! Calls of the class: weak, cuts, rehearse, both -/
noncomputable def a_cuts (K : KT) (off w : Int32) : Int32 := if inR off (2 ^ K 0 0) && inR w 2 then (match ccut K (cl off) (2 ^ K 0 1) with | none => -4 | some s => if cl w = 0 then nI s else nI (lsum K s)) else -1
def a_both (K : KT) (i j : Int32) : Int32 := if inR i (K 0 1) && (inR j (K 0 1) && decide (cl i ≠ cl j)) then b2i (!clf K (cl i) (cl j)) else -1
theorem ccut_lt (K : KT) (off : Nat) : ∀ (s f : Nat), ccut K off s = some f → f < s
  | 0, f, h => by cases h
  | s + 1, f, h => by
    unfold ccut at h
    split at h
    · cases h; omega
    · have := ccut_lt K off s f h; omega
section
variable {E : En} {I I' : TI} {J J' : TJ} {R : TR} {t : Nat → Nat} {len : Nat} {K : KT} {D D1 D2 : Di} {kp : Nat} {tl : Nat → Int32} {co dr : Nat} {cc a1 a2 : Option Nat}
theorem op_weak {d : Nat} (hd : 15 ≤ d) (hB : KB K) (h : CS t len K D D1 D2 kp tl I J R) {k w : Int32} : Cal E d M_X10_weak [.ref 0, .int k, .int w] NC I J R (OK t len K D D1 D2 kp tl (some (.int (a_weak K k w))) I J) := by
  have h' := h
  obtain ⟨co, dr, cc, a1, a2, hw, rfl, hX, hS, hT, hD, hC⟩ := h
  have hco := hw.co
  have hrc : RR co dr cc a1 a2 0 3 = some co := rfl
  obtain ⟨_, _, _, _, _, _, _, _, _, _, _, _, _, _, _, _, _, _, _, _, _, _, _⟩ := f_co (co := co) (dr := dr) (cc := cc) (a1 := a1) (a2 := a2) (hco)
  refine Cal_of kn_X10_weak rfl (Nat.le_of_ble_eq_true rfl) ?_
  by_cases k1 : k < 1
  · refine V_iload_n dX10_weak_0 rfl rfl (V_iconst (v := 1) dX10_weak_1 (by decide) ?_)
    refine V_icmp_lt_t (tgt := 19) dX10_weak_2 (by decide) (k1) ?_
    refine V_iconst (v := (-1)) dX10_weak_19 (by decide) ?_
    refine V_ireturn dX10_weak_20 rfl rfl rfl (by decide) (by decide) ?_
    rw [a_weak, kIf0 k1]; exact OK.same h'
  by_cases k2 : 2 < k
  · refine V_iload_n dX10_weak_0 rfl rfl (V_iconst (v := 1) dX10_weak_1 (by decide) ?_)
    refine V_icmp_lt_f (tgt := 19) dX10_weak_2 (by decide) (k1) ?_
    refine V_iload_n dX10_weak_5 rfl rfl (V_iconst (v := 2) dX10_weak_6 (by decide) ?_)
    refine V_icmp_gt_t (tgt := 19) dX10_weak_7 (by decide) (k2) ?_
    refine V_iconst (v := (-1)) dX10_weak_19 (by decide) ?_
    refine V_ireturn dX10_weak_20 rfl rfl rfl (by decide) (by decide) ?_
    rw [a_weak, kIf2 k2]; exact OK.same h'
  by_cases w0 : w < 0
  · refine V_iload_n dX10_weak_0 rfl rfl (V_iconst (v := 1) dX10_weak_1 (by decide) ?_)
    refine V_icmp_lt_f (tgt := 19) dX10_weak_2 (by decide) (k1) ?_
    refine V_iload_n dX10_weak_5 rfl rfl (V_iconst (v := 2) dX10_weak_6 (by decide) ?_)
    refine V_icmp_gt_f (tgt := 19) dX10_weak_7 (by decide) (k2) ?_
    refine V_iload_n dX10_weak_10 rfl rfl ?_
    refine V_if_lt_t (tgt := 19) dX10_weak_11 (by decide) (w0) ?_
    refine V_iconst (v := (-1)) dX10_weak_19 (by decide) ?_
    refine V_ireturn dX10_weak_20 rfl rfl rfl (by decide) (by decide) ?_
    rw [a_weak, inR_lt w0, Bool.and_false]; exact OK.same h'
  by_cases w1 : w ≤ 1
  · have hk := kIt k1 k2
    have hwr := w01 w0 w1
    obtain ⟨q1, q2⟩ := kI_cl hk
    obtain ⟨q3, q4⟩ := inR_cl hwr (by omega)
    rw [a_weak, hk, hwr]
    generalize hkk : cl k = kk at *
    generalize hww : cl w = ww at *
    subst q2 q4
    have hWl := wW_le (K := K) (k := kk) hB (by omega)
    refine V_iload_n dX10_weak_0 rfl rfl (V_iconst (v := 1) dX10_weak_1 (by decide) ?_)
    refine V_icmp_lt_f (tgt := 19) dX10_weak_2 (by decide) (k1) ?_
    refine V_iload_n dX10_weak_5 rfl rfl (V_iconst (v := 2) dX10_weak_6 (by decide) ?_)
    refine V_icmp_gt_f (tgt := 19) dX10_weak_7 (by decide) (k2) ?_
    refine V_iload_n dX10_weak_10 rfl rfl ?_
    refine V_if_lt_f (tgt := 19) dX10_weak_11 (by decide) (w0) ?_
    refine V_iload_n dX10_weak_14 rfl rfl (V_iconst (v := 1) dX10_weak_15 (by decide) ?_)
    refine V_icmp_le_t (tgt := 21) dX10_weak_16 (by decide) (w1) ?_
    refine V_aload_n dX10_weak_21 rfl rfl ?_
    refine V_getR dX10_weak_22 fl_X10_57 (by first | assumption | exact ⟨by decide, rfl⟩) (by first | assumption | rfl) ?_
    refine V_aload_n dX10_weak_25 rfl rfl ?_
    refine V_getR dX10_weak_26 fl_X10_23 (by first | assumption | exact ⟨by decide, rfl⟩) (by first | assumption | rfl) ?_
    refine V_iload_n dX10_weak_29 rfl rfl ?_
    refine V_cV2v (M' := M_X0_findWeak) (d' := 14) dX10_weak_30 (Or.inl ml_X10_270) kb_X0_findWeak (by first | assumption | exact ⟨by decide, rfl⟩) (by first | decide | omega) (by simp [Value.category]) ⟨by decide, by decide⟩ ?_
    refine sp_findWeak (by omega) hco hB hX hS hC.1 q1 (fun I1 b1 g1 g2 g3 g4 => ⟨rfl, ?_⟩)
    have fr : ∀ x y, x < 48 ∨ 52 < x → I1 x y = I x y := fun x y hx => g1 x y (by omega) (by omega) (by omega) (by omega) (by omega)
    have hcs : CS t len K D D1 D2 kp tl I1 J (RR co dr cc b1 a2) := CS.put hw hX hS hT hD (fun x y hx => fr x y (by omega)) ⟨g2, hC.2.1.of (fr _ _ (by omega)) (fun _ => rfl), hC.2.2.1.of (fr _ _ (by omega)) (fr _ _ (by omega)), hC.2.2.2.of (fun y => fr _ _ (by omega)) (fun y => fr _ _ (by omega))⟩
    have g3' : I1 48 3 = nI (wW K kk) := g3
    rcases (show ww = 0 ∨ ww = 1 by omega) with rfl | rfl
    · refine V_iload_n dX10_weak_33 rfl rfl ?_
      refine V_if_ne_f (tgt := 45) dX10_weak_34 (by decide) (nI_0) ?_
      refine V_aload_n dX10_weak_37 rfl rfl ?_
      refine V_getR dX10_weak_38 fl_X10_57 (by first | assumption | exact ⟨by decide, rfl⟩) (by first | assumption | rfl) ?_
      refine V_getI dX10_weak_41 fl_X10_274 (by first | assumption | exact ⟨by decide, rfl⟩) ?_
      refine V_ireturn dX10_weak_44 rfl rfl rfl (by decide) (by decide) ?_
      rw [g3']
      exact ⟨rfl, rfl, hcs, fun x y hx => fr x y (by omega), fun _ _ _ => rfl⟩
    · by_cases hz : 0 < wW K kk
      · refine V_iload_n dX10_weak_33 rfl rfl ?_
        refine V_if_ne_t (tgt := 45) dX10_weak_34 (by decide) (by decide) ?_
        refine V_aload_n dX10_weak_45 rfl rfl ?_
        refine V_getR dX10_weak_46 fl_X10_57 (by first | assumption | exact ⟨by decide, rfl⟩) (by first | assumption | rfl) ?_
        refine V_getI dX10_weak_49 fl_X10_274 (by first | assumption | exact ⟨by decide, rfl⟩) ?_
        refine V_if_le_f (tgt := 67) dX10_weak_52 (by decide) (by rw [g3', show (0 : Int32) = nI 0 from rfl, lit_le (by omega) (by omega)]; omega) ?_
        refine V_aload_n dX10_weak_55 rfl rfl ?_
        refine V_getR dX10_weak_56 fl_X10_57 (by first | assumption | exact ⟨by decide, rfl⟩) (by first | assumption | rfl) ?_
        refine V_getR dX10_weak_59 fl_X10_277 (by first | assumption | exact ⟨by decide, rfl⟩) (by first | assumption | rfl) ?_
        refine V_iconst (v := 0) dX10_weak_62 (by decide) ?_
        refine V_ial dX10_weak_63 (by first | assumption | exact ⟨by decide, rfl⟩) (show ix _ 0 45 from ⟨nI_0.symm, by decide⟩) ?_
        refine V_goto (tgt := 69) dX10_weak_64 (by decide) ?_
        refine V_ireturn dX10_weak_69 rfl rfl rfl (by decide) (by decide) ?_
        rw [WKS.at g4 hz, if_neg (show ¬ 1 = 0 by decide), if_pos hz]
        exact ⟨rfl, rfl, hcs, fun x y hx => fr x y (by omega), fun _ _ _ => rfl⟩
      · refine V_iload_n dX10_weak_33 rfl rfl ?_
        refine V_if_ne_t (tgt := 45) dX10_weak_34 (by decide) (by decide) ?_
        refine V_aload_n dX10_weak_45 rfl rfl ?_
        refine V_getR dX10_weak_46 fl_X10_57 (by first | assumption | exact ⟨by decide, rfl⟩) (by first | assumption | rfl) ?_
        refine V_getI dX10_weak_49 fl_X10_274 (by first | assumption | exact ⟨by decide, rfl⟩) ?_
        refine V_if_le_t (tgt := 67) dX10_weak_52 (by decide) (by rw [g3', show (0 : Int32) = nI 0 from rfl, lit_le (by omega) (by omega)]; omega) ?_
        refine V_bipush (v := (-4)) dX10_weak_67 (by decide) ?_
        refine V_ireturn dX10_weak_69 rfl rfl rfl (by decide) (by decide) ?_
        rw [if_neg (show ¬ 1 = 0 by decide), if_neg hz]
        exact ⟨rfl, rfl, hcs, fun x y hx => fr x y (by omega), fun _ _ _ => rfl⟩
  · refine V_iload_n dX10_weak_0 rfl rfl (V_iconst (v := 1) dX10_weak_1 (by decide) ?_)
    refine V_icmp_lt_f (tgt := 19) dX10_weak_2 (by decide) (k1) ?_
    refine V_iload_n dX10_weak_5 rfl rfl (V_iconst (v := 2) dX10_weak_6 (by decide) ?_)
    refine V_icmp_gt_f (tgt := 19) dX10_weak_7 (by decide) (k2) ?_
    refine V_iload_n dX10_weak_10 rfl rfl ?_
    refine V_if_lt_f (tgt := 19) dX10_weak_11 (by decide) (w0) ?_
    refine V_iload_n dX10_weak_14 rfl rfl (V_iconst (v := 1) dX10_weak_15 (by decide) ?_)
    refine V_icmp_le_f (tgt := 21) dX10_weak_16 (by decide) (w1) ?_
    refine V_iconst (v := (-1)) dX10_weak_19 (by decide) ?_
    refine V_ireturn dX10_weak_20 rfl rfl rfl (by decide) (by decide) ?_
    rw [a_weak, w01n w1, Bool.and_false]; exact OK.same h'
theorem op_cuts {d : Nat} (hd : 14 ≤ d) (hB : KB K) (h : CS t len K D D1 D2 kp tl I J R) {off w : Int32} : Cal E d M_X10_cuts [.ref 0, .int off, .int w] NC I J R (OK t len K D D1 D2 kp tl (some (.int (a_cuts K off w))) I J) := by
  have h' := h
  obtain ⟨co, dr, cc, a1, a2, hw, rfl, hX, hS, hT, hD, hC⟩ := h
  have hco := hw.co
  have hP := hB.1.1
  have hQ := hB.1.2.1
  have hpw : 2 ^ K 0 0 ≤ 1024 := Nat.pow_le_pow_right (n := 2) (by decide) hP
  have hqw : 2 ^ K 0 1 ≤ 256 := Nat.pow_le_pow_right (n := 2) (by decide) hQ
  have hrc : RR co dr cc a1 a2 0 3 = some co := rfl
  obtain ⟨_, _, _, _, _, _, _, _, _, _, _, _, _, _, _, _, _, _, _, _, _, _, _⟩ := f_co (co := co) (dr := dr) (cc := cc) (a1 := a1) (a2 := a2) (hco)
  refine Cal_of kn_X10_cuts rfl (Nat.le_of_ble_eq_true rfl) ?_
  refine V_aload_n dX10_cuts_0 rfl rfl ?_
  refine V_getR dX10_cuts_1 fl_X10_23 (by first | assumption | exact ⟨by decide, rfl⟩) (by first | assumption | rfl) ?_
  refine V_iload_n dX10_cuts_4 rfl rfl ?_
  refine V_cV1i (M' := M_X3_hasPlayers) (d' := 1) dX10_cuts_5 (Or.inl ml_X10_184) kb_X3_hasPlayers (by first | assumption | exact ⟨by decide, rfl⟩) (by first | decide | omega) (by simp [Value.category]) ⟨by decide, by decide⟩ ?_
  refine sp_hasPlayers hco hX.1.1 hP ⟨_, rfl, ?_⟩
  cases hv : inR off (2 ^ K 0 0)
  · refine V_if_eq_t (tgt := 20) dX10_cuts_8 (by decide) (rfl) ?_
    refine V_iconst (v := (-1)) dX10_cuts_20 (by decide) ?_
    refine V_ireturn dX10_cuts_21 rfl rfl rfl (by decide) (by decide) ?_
    rw [a_cuts, hv]; exact OK.same h'
  by_cases w0 : w < 0
  · refine V_if_eq_f (tgt := 20) dX10_cuts_8 (by decide) (by decide) ?_
    refine V_iload_n dX10_cuts_11 rfl rfl ?_
    refine V_if_lt_t (tgt := 20) dX10_cuts_12 (by decide) (w0) ?_
    refine V_iconst (v := (-1)) dX10_cuts_20 (by decide) ?_
    refine V_ireturn dX10_cuts_21 rfl rfl rfl (by decide) (by decide) ?_
    rw [a_cuts, inR_lt w0, Bool.and_false]; exact OK.same h'
  by_cases w1 : w ≤ 1
  · have hwr := w01 w0 w1
    obtain ⟨q1, q2⟩ := inR_cl hv (by omega)
    obtain ⟨q3, q4⟩ := inR_cl hwr (by omega)
    rw [a_cuts, hv, hwr]
    generalize hkk : cl off = kk at *
    generalize hww : cl w = ww at *
    subst q2 q4
    refine V_if_eq_f (tgt := 20) dX10_cuts_8 (by decide) (by decide) ?_
    refine V_iload_n dX10_cuts_11 rfl rfl ?_
    refine V_if_lt_f (tgt := 20) dX10_cuts_12 (by decide) (w0) ?_
    refine V_iload_n dX10_cuts_15 rfl rfl (V_iconst (v := 1) dX10_cuts_16 (by decide) ?_)
    refine V_icmp_le_t (tgt := 22) dX10_cuts_17 (by decide) (w1) ?_
    refine V_aload_n dX10_cuts_22 rfl rfl ?_
    refine V_getR dX10_cuts_23 fl_X10_57 (by first | assumption | exact ⟨by decide, rfl⟩) (by first | assumption | rfl) ?_
    refine V_aload_n dX10_cuts_26 rfl rfl ?_
    refine V_getR dX10_cuts_27 fl_X10_23 (by first | assumption | exact ⟨by decide, rfl⟩) (by first | assumption | rfl) ?_
    refine V_iload_n dX10_cuts_30 rfl rfl ?_
    refine V_cV2i (M' := M_X0_cheapestCut) (d' := 13) dX10_cuts_31 (Or.inl ml_X10_212) kb_X0_cheapestCut (by first | assumption | exact ⟨by decide, rfl⟩) (by first | decide | omega) (by simp [Value.category]) ⟨by decide, by decide⟩ ?_
    refine sp_cheapestCut (by omega) hco hB hX hS (fun I1 b1 g1 => ⟨_, rfl, ?_⟩)
    have hcs : CS t len K D D1 D2 kp tl I1 J (RR co dr cc b1 a2) := CS.put hw hX hS hT hD (fun x y hx => g1 x y (by omega) (by omega)) ⟨hC.1.of (fun b => g1 _ _ (by omega) (by omega)), hC.2.1.of (g1 _ _ (by omega) (by omega)) (fun _ => rfl), hC.2.2.1.of (g1 _ _ (by omega) (by omega)) (g1 _ _ (by omega) (by omega)), hC.2.2.2.of (fun y => g1 _ _ (by omega) (by omega)) (fun y => g1 _ _ (by omega) (by omega))⟩
    have hX1 : CoX I1 co K := hX.of (fun x y a b => g1 x y (by omega) (by omega))
    have hrc2 : RR co dr cc b1 a2 0 3 = some co := rfl
    cases hcc : ccut K kk (2 ^ K 0 1) with
    | none =>
      refine V_istore_3 dX10_cuts_34 (by decide) rfl (V_iload_n dX10_cuts_35 rfl rfl (V_bipush (v := (-4)) dX10_cuts_36 (by decide) ?_))
      refine V_icmp_eq_t (tgt := 45) dX10_cuts_38 (by decide) (rfl) ?_
      refine V_iload_n dX10_cuts_45 rfl rfl ?_
      refine V_ireturn dX10_cuts_46 rfl rfl rfl (by decide) (by decide) ?_
      exact ⟨rfl, rfl, hcs, fun x y hx => g1 x y (by omega) (by omega), fun _ _ _ => rfl⟩
    | some s =>
      have hs := ccut_lt K kk _ s hcc
      rcases (show ww = 0 ∨ ww = 1 by omega) with rfl | rfl
      · refine V_istore_3 dX10_cuts_34 (by decide) rfl (V_iload_n dX10_cuts_35 rfl rfl (V_bipush (v := (-4)) dX10_cuts_36 (by decide) ?_))
        refine V_icmp_eq_f (tgt := 45) dX10_cuts_38 (by decide) (nI_ne4 (by omega)) ?_
        refine V_iload_n dX10_cuts_41 rfl rfl ?_
        refine V_if_ne_f (tgt := 47) dX10_cuts_42 (by decide) (nI_0) ?_
        refine V_iload_n dX10_cuts_45 rfl rfl ?_
        refine V_ireturn dX10_cuts_46 rfl rfl rfl (by decide) (by decide) ?_
        exact ⟨rfl, rfl, hcs, fun x y hx => g1 x y (by omega) (by omega), fun _ _ _ => rfl⟩
      · refine V_istore_3 dX10_cuts_34 (by decide) rfl (V_iload_n dX10_cuts_35 rfl rfl (V_bipush (v := (-4)) dX10_cuts_36 (by decide) ?_))
        refine V_icmp_eq_f (tgt := 45) dX10_cuts_38 (by decide) (nI_ne4 (by omega)) ?_
        refine V_iload_n dX10_cuts_41 rfl rfl ?_
        refine V_if_ne_t (tgt := 47) dX10_cuts_42 (by decide) (by decide) ?_
        refine V_aload_n dX10_cuts_47 rfl rfl ?_
        refine V_getR dX10_cuts_48 fl_X10_23 (by first | assumption | exact ⟨by decide, rfl⟩) (by first | assumption | rfl) ?_
        refine V_iload_n dX10_cuts_51 rfl rfl ?_
        refine V_cV1i (M' := M_X3_linesTogether) (d' := 2) dX10_cuts_52 (Or.inl ml_X10_216) kb_X3_linesTogether (by first | assumption | exact ⟨by decide, rfl⟩) (by first | decide | omega) (by simp [Value.category]) ⟨by decide, by decide⟩ ?_
        refine sp_linesTogether hco hB hX1 (by omega) ⟨_, rfl, ?_⟩
        refine V_ireturn dX10_cuts_55 rfl rfl rfl (by decide) (by decide) ?_
        exact ⟨rfl, rfl, hcs, fun x y hx => g1 x y (by omega) (by omega), fun _ _ _ => rfl⟩
  · refine V_if_eq_f (tgt := 20) dX10_cuts_8 (by decide) (by decide) ?_
    refine V_iload_n dX10_cuts_11 rfl rfl ?_
    refine V_if_lt_f (tgt := 20) dX10_cuts_12 (by decide) (w0) ?_
    refine V_iload_n dX10_cuts_15 rfl rfl (V_iconst (v := 1) dX10_cuts_16 (by decide) ?_)
    refine V_icmp_le_f (tgt := 22) dX10_cuts_17 (by decide) (w1) ?_
    refine V_iconst (v := (-1)) dX10_cuts_20 (by decide) ?_
    refine V_ireturn dX10_cuts_21 rfl rfl rfl (by decide) (by decide) ?_
    rw [a_cuts, w01n w1, Bool.and_false]; exact OK.same h'
theorem op_both {d : Nat} (hd : 2 ≤ d) (hB : KB K) (h : CS t len K D D1 D2 kp tl I J R) {i j : Int32} : Cal E d M_X10_both [.ref 0, .int i, .int j] NC I J R (OK t len K D D1 D2 kp tl (some (.int (a_both K i j))) I J) := by
  have h' := h
  obtain ⟨co, dr, cc, a1, a2, hw, rfl, hX, hS, hT, hD, hC⟩ := h
  have hco := hw.co
  have hQ := hB.1.2.1
  have hrc : RR co dr cc a1 a2 0 3 = some co := rfl
  obtain ⟨_, _, _, _, _, _, _, _, _, _, _, _, _, _, _, _, _, _, _, _, _, _, _⟩ := f_co (co := co) (dr := dr) (cc := cc) (a1 := a1) (a2 := a2) (hco)
  refine Cal_of kn_X10_both rfl (Nat.le_of_ble_eq_true rfl) ?_
  refine V_aload_n dX10_both_0 rfl rfl ?_
  refine V_getR dX10_both_1 fl_X10_23 (by first | assumption | exact ⟨by decide, rfl⟩) (by first | assumption | rfl) ?_
  refine V_iload_n dX10_both_4 rfl rfl ?_
  refine V_cV1i (M' := M_X3_hasPart) (d' := 1) dX10_both_5 (Or.inl ml_X10_151) kb_X3_hasPart (by first | assumption | exact ⟨by decide, rfl⟩) (by first | decide | omega) (by simp [Value.category]) ⟨by decide, by decide⟩ ?_
  refine sp_hasPart hco hX.1.2.1 (by omega) ⟨_, rfl, ?_⟩
  cases hv : inR i (K 0 1)
  · refine V_if_eq_t (tgt := 27) dX10_both_8 (by decide) (rfl) ?_
    refine V_iconst (v := (-1)) dX10_both_27 (by decide) ?_
    refine V_ireturn dX10_both_28 rfl rfl rfl (by decide) (by decide) ?_
    rw [a_both, hv]; exact OK.same h'
  · obtain ⟨q1, q2⟩ := inR_cl hv (by omega)
    refine V_if_eq_f (tgt := 27) dX10_both_8 (by decide) (by decide) ?_
    refine V_aload_n dX10_both_11 rfl rfl ?_
    refine V_getR dX10_both_12 fl_X10_23 (by first | assumption | exact ⟨by decide, rfl⟩) (by first | assumption | rfl) ?_
    refine V_iload_n dX10_both_15 rfl rfl ?_
    refine V_cV1i (M' := M_X3_hasPart) (d' := 1) dX10_both_16 (Or.inl ml_X10_151) kb_X3_hasPart (by first | assumption | exact ⟨by decide, rfl⟩) (by first | decide | omega) (by simp [Value.category]) ⟨by decide, by decide⟩ ?_
    refine sp_hasPart hco hX.1.2.1 (by omega) ⟨_, rfl, ?_⟩
    cases hv2 : inR j (K 0 1)
    · refine V_if_eq_t (tgt := 27) dX10_both_19 (by decide) (rfl) ?_
      refine V_iconst (v := (-1)) dX10_both_27 (by decide) ?_
      refine V_ireturn dX10_both_28 rfl rfl rfl (by decide) (by decide) ?_
      rw [a_both, hv, hv2]; exact OK.same h'
    · obtain ⟨q3, q4⟩ := inR_cl hv2 (by omega)
      rw [a_both, hv, hv2]
      generalize hkk : cl i = kk at *
      generalize hww : cl j = ww at *
      subst q2 q4
      by_cases he : kk = ww
      · refine V_if_eq_f (tgt := 27) dX10_both_19 (by decide) (by decide) ?_
        refine V_iload_n dX10_both_22 rfl rfl (V_iload_n dX10_both_23 rfl rfl ?_)
        refine V_icmp_ne_f (tgt := 29) dX10_both_24 (by decide) (by rw [he]) ?_
        refine V_iconst (v := (-1)) dX10_both_27 (by decide) ?_
        refine V_ireturn dX10_both_28 rfl rfl rfl (by decide) (by decide) ?_
        rw [decide_eq_false (fun z => z he)]; exact OK.same h'
      · refine V_if_eq_f (tgt := 27) dX10_both_19 (by decide) (by decide) ?_
        refine V_iload_n dX10_both_22 rfl rfl (V_iload_n dX10_both_23 rfl rfl ?_)
        refine V_icmp_ne_t (tgt := 29) dX10_both_24 (by decide) (by exact fun z => he ((nI_eq (by omega) (by omega)).mp z)) ?_
        refine V_aload_n dX10_both_29 rfl rfl ?_
        refine V_getR dX10_both_30 fl_X10_23 (by first | assumption | exact ⟨by decide, rfl⟩) (by first | assumption | rfl) ?_
        refine V_getR dX10_both_33 fl_X10_178 (by first | assumption | exact ⟨by decide, rfl⟩) (by first | assumption | rfl) ?_
        refine V_iload_n dX10_both_36 rfl rfl ?_
        refine V_ial dX10_both_37 (by first | assumption | exact ⟨by decide, rfl⟩) (show ix _ kk 8 from ⟨rfl, by omega⟩) ?_
        refine V_iload_n dX10_both_38 rfl rfl ?_
        refine V_cS2i (M' := M_X10_has) (d' := 1) dX10_both_39 (Or.inl ml_X10_181) kb_X10_has (by first | decide | omega) (by simp [Value.category]) ⟨by decide, by decide⟩ ?_
        rw [(hS kk q1).2, decide_eq_true he]
        refine sp_has (lt31 (clashM_lt K hB kk) (by decide)) (by omega) ⟨_, rfl, ?_⟩
        rw [clashM_tb K q1]
        cases hc : clf K kk ww
        · refine V_if_eq_t (tgt := 49) dX10_both_42 (by decide) (rfl) ?_
          refine V_iconst (v := 1) dX10_both_49 (by decide) ?_
          refine V_ireturn dX10_both_50 rfl rfl rfl (by decide) (by decide) ?_
          exact OK.same h'
        · refine V_if_eq_f (tgt := 49) dX10_both_42 (by decide) (by decide) ?_
          refine V_iconst (v := 0) dX10_both_45 (by decide) (V_goto (tgt := 50) dX10_both_46 (by decide) ?_)
          refine V_ireturn dX10_both_50 rfl rfl rfl (by decide) (by decide) ?_
          exact OK.same h'
end
