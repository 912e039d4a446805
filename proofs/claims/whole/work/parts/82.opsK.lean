/-! Calls of the class: rehearsals -/
def a_rhs (K : KT) (D : Di) (h x : Int32) : Int32 :=
  if inR h 100 && decide (-3 ≤ x) then
    (if x = -1 then nI (gs (chL (lsT K D.1 D.2.1 (8 * K 0 0)) (cl h)))
    else if x = -2 then nI (hs (chL (lsT K D.1 D.2.1 (8 * K 0 0)) (cl h)))
    else if x = -3 then nI (chL (lsT K D.1 D.2.1 (8 * K 0 0)) (cl h)).length
    else match (chL (lsT K D.1 D.2.1 (8 * K 0 0)) (cl h))[cl x]? with
      | none => -4
      | some y => nI y.1)
  else -1
theorem nn_cl {x : Int32} (h : ¬ x < 0) : cl x < 2 ^ 31 ∧ x = nI (cl x) := by
  have q := (not_congr Int32.lt_iff_toInt_lt).mp h
  have e0 : (0 : Int32).toInt = 0 := by decide
  have r := fb_rng x
  have hc : cl x = x.toInt.toNat := rfl
  have hlt : cl x < 2 ^ 31 := by rw [hc]; omega
  refine ⟨hlt, Int32.toInt_inj.mp ?_⟩
  rw [nI_toInt hlt, hc]
  omega
section
variable {E : En} {I I' : TI} {J J' : TJ} {R : TR} {t : Nat → Nat} {len : Nat} {K : KT} {D D1 D2 : Di} {kp : Nat} {tl : Nat → Int32} {co dr : Nat} {cc a1 a2 : Option Nat}
theorem op_rehearsals {d : Nat} (hd : 5 ≤ d) (hB : KB K) (hKC : KC K) (hDB : DB D.1 D.2.1) (h : CS t len K D D1 D2 kp tl I J R) {hr x : Int32} : Cal E d M_X10_rehearsals [.ref 0, .int hr, .int x] NC I J R (OK t len K D D1 D2 kp tl (some (.int (a_rhs K D hr x))) I J) := by
  have h' := h
  obtain ⟨co, dr, cc, a1, a2, hw, rfl, hX, hS, hT, hD, hC⟩ := h
  have hco := hw.co
  have hP := hB.1.1
  have hrc : RR co dr cc a1 a2 0 3 = some co := rfl
  have e0 : (0 : Int32).toInt = 0 := by decide
  have e99 : (99 : Int32).toInt = 99 := by decide
  have em3 : (-3 : Int32).toInt = -3 := by decide
  obtain ⟨_, _, _, _, _, _, _, _, _, _, _, _, _, _, _, _, _, _, _, _, _, _, _⟩ := f_co (co := co) (dr := dr) (cc := cc) (a1 := a1) (a2 := a2) (hco)
  refine Cal_of kn_X10_rehearsals rfl (Nat.le_of_ble_eq_true rfl) ?_
  by_cases h0 : hr < 0
  · refine V_iload_n dX10_rehearsals_0 rfl rfl ?_
    refine V_if_lt_t (tgt := 16) dX10_rehearsals_1 (by decide) (h0) ?_
    refine V_iconst (v := (-1)) dX10_rehearsals_16 (by decide) ?_
    refine V_ireturn dX10_rehearsals_17 rfl rfl rfl (by decide) (by decide) ?_
    rw [a_rhs, inR_lt h0]; exact OK.same h'
  by_cases h1 : 99 < hr
  · have hh : inR hr 100 = false := decide_eq_false (fun z => by have := Int32.lt_iff_toInt_lt.mp h1; omega)
    refine V_iload_n dX10_rehearsals_0 rfl rfl ?_
    refine V_if_lt_f (tgt := 16) dX10_rehearsals_1 (by decide) (h0) ?_
    refine V_iload_n dX10_rehearsals_4 rfl rfl (V_bipush (v := 99) dX10_rehearsals_5 (by decide) ?_)
    refine V_icmp_gt_t (tgt := 16) dX10_rehearsals_7 (by decide) (h1) ?_
    refine V_iconst (v := (-1)) dX10_rehearsals_16 (by decide) ?_
    refine V_ireturn dX10_rehearsals_17 rfl rfl rfl (by decide) (by decide) ?_
    rw [a_rhs, hh]; exact OK.same h'
  have hh : inR hr 100 = true := decide_eq_true (by
    have q1 := (not_congr Int32.lt_iff_toInt_lt).mp h0
    have q2 := (not_congr Int32.lt_iff_toInt_lt).mp h1
    omega)
  by_cases h3 : -3 ≤ x
  · obtain ⟨q1, q2⟩ := inR_cl hh (by omega)
    rw [a_rhs, hh, decide_eq_true h3]
    generalize hkk : cl hr = kk at *
    subst q2
    have hlen : (chL (lsT K D.1 D.2.1 (8 * K 0 0)) kk).length ≤ 32 := Nat.le_trans (chL_len _ _) (lsT_len hB hKC D.1 D.2.1 (by omega))
    refine V_iload_n dX10_rehearsals_0 rfl rfl ?_
    refine V_if_lt_f (tgt := 16) dX10_rehearsals_1 (by decide) (h0) ?_
    refine V_iload_n dX10_rehearsals_4 rfl rfl (V_bipush (v := 99) dX10_rehearsals_5 (by decide) ?_)
    refine V_icmp_gt_f (tgt := 16) dX10_rehearsals_7 (by decide) (h1) ?_
    refine V_iload_n dX10_rehearsals_10 rfl rfl (V_bipush (v := (-3)) dX10_rehearsals_11 (by decide) ?_)
    refine V_icmp_ge_t (tgt := 18) dX10_rehearsals_13 (by decide) (h3) ?_
    refine V_aload_n dX10_rehearsals_18 rfl rfl ?_
    refine V_getR dX10_rehearsals_19 fl_X10_78 (by first | assumption | exact ⟨by decide, rfl⟩) (by first | assumption | rfl) ?_
    refine V_aload_n dX10_rehearsals_22 rfl rfl ?_
    refine V_getR dX10_rehearsals_23 fl_X10_23 (by first | assumption | exact ⟨by decide, rfl⟩) (by first | assumption | rfl) ?_
    refine V_aload_n dX10_rehearsals_26 rfl rfl ?_
    refine V_getR dX10_rehearsals_27 fl_X10_33 (by first | assumption | exact ⟨by decide, rfl⟩) (by first | assumption | rfl) ?_
    refine V_iload_n dX10_rehearsals_30 rfl rfl ?_
    refine V_cV3v (M' := M_X8_plan) (d' := 4) dX10_rehearsals_31 (Or.inl ml_X10_233) kb_X8_plan (by first | assumption | exact ⟨by decide, rfl⟩) (by first | decide | omega) (by simp [Value.category]) ⟨by decide, by decide⟩ ?_
    refine sp_plan (c := 32) (by omega) (Or.inl rfl) hco hB hKC hX hS hD.1 hDB (by omega) (fun I1 g1 g2 => ⟨rfl, ?_⟩)
    have hok : ∀ v, OK t len K D D1 D2 kp tl v I J v NC I1 J (RR co dr cc a1 a2) := fun v => ⟨rfl, rfl, CS.put hw hX hS hT hD (fun x y hx => g1 x y (by omega)) (hC.of (fun x y a b => g1 x y (by omega)) (fun _ => rfl)), fun x y hx => g1 x y (by omega), fun _ _ _ => rfl⟩
    obtain ⟨c6, c9, c7, c8⟩ := g2
    rw [if_pos (by rfl)]
    refine V_iload_n dX10_rehearsals_34 rfl rfl ?_
    by_cases hx0 : x < 0
    · have hx3 : ¬ x < -3 := fun z => by
        have q1 := Int32.lt_iff_toInt_lt.mp z
        have q2 := Int32.le_iff_toInt_le.mp h3
        omega
      rcases neg3 hx0 hx3 with rfl | rfl | rfl
      · refine V_tableIn (off := 25) (tgt := 60) dX10_rehearsals_35 (by decide) (by decide) (by decide) (by decide) ?_
        refine V_aload_n dX10_rehearsals_60 rfl rfl ?_
        refine V_getR dX10_rehearsals_61 fl_X10_78 (by first | assumption | exact ⟨by decide, rfl⟩) (by first | assumption | rfl) ?_
        refine V_getI dX10_rehearsals_64 fl_X10_237 (by first | assumption | exact ⟨by decide, rfl⟩) ?_
        refine V_ireturn dX10_rehearsals_67 rfl rfl rfl (by decide) (by decide) ?_
        rw [c7, if_pos rfl]; exact hok _
      · refine V_tableIn (off := 33) (tgt := 68) dX10_rehearsals_35 (by decide) (by decide) (by decide) (by decide) ?_
        refine V_aload_n dX10_rehearsals_68 rfl rfl ?_
        refine V_getR dX10_rehearsals_69 fl_X10_78 (by first | assumption | exact ⟨by decide, rfl⟩) (by first | assumption | rfl) ?_
        refine V_getI dX10_rehearsals_72 fl_X10_240 (by first | assumption | exact ⟨by decide, rfl⟩) ?_
        refine V_ireturn dX10_rehearsals_75 rfl rfl rfl (by decide) (by decide) ?_
        rw [c8, if_neg (by decide), if_pos rfl]; exact hok _
      · refine V_tableIn (off := 41) (tgt := 76) dX10_rehearsals_35 (by decide) (by decide) (by decide) (by decide) ?_
        refine V_aload_n dX10_rehearsals_76 rfl rfl ?_
        refine V_getR dX10_rehearsals_77 fl_X10_78 (by first | assumption | exact ⟨by decide, rfl⟩) (by first | assumption | rfl) ?_
        refine V_getI dX10_rehearsals_80 fl_X10_243 (by first | assumption | exact ⟨by decide, rfl⟩) ?_
        refine V_ireturn dX10_rehearsals_83 rfl rfl rfl (by decide) (by decide) ?_
        rw [c6, if_neg (by decide), if_neg (by decide), if_pos rfl]; exact hok _
    · have hti : 0 ≤ x.toInt := by
        have := (not_congr Int32.lt_iff_toInt_lt).mp hx0
        omega
      obtain ⟨p1, p2⟩ := nn_cl hx0
      have n1 : ∀ w : Int32, w < 0 → ¬ x = w := fun w hw z => hx0 (by rw [z]; exact hw)
      rw [if_neg (n1 _ (by decide)), if_neg (n1 _ (by decide)), if_neg (n1 _ (by decide))]
      generalize hxx : cl x = xx at *
      subst p2
      refine V_tableOut (tgt := 84) dX10_rehearsals_35 (Or.inr (by omega)) (by decide) ?_
      by_cases hlt : xx < (chL (lsT K D.1 D.2.1 (8 * K 0 0)) kk).length
      · have hget := List.getElem?_eq_getElem hlt
        refine V_iload_n dX10_rehearsals_84 rfl rfl (V_aload_n dX10_rehearsals_85 rfl rfl ?_)
        refine V_getR dX10_rehearsals_86 fl_X10_78 (by first | assumption | exact ⟨by decide, rfl⟩) (by first | assumption | rfl) ?_
        refine V_getI dX10_rehearsals_89 fl_X10_243 (by first | assumption | exact ⟨by decide, rfl⟩) ?_
        refine V_icmp_ge_f (tgt := 107) dX10_rehearsals_92 (by decide) (by rw [c6]; exact nI_ge hlt (by omega)) ?_
        refine V_aload_n dX10_rehearsals_95 rfl rfl ?_
        refine V_getR dX10_rehearsals_96 fl_X10_78 (by first | assumption | exact ⟨by decide, rfl⟩) (by first | assumption | rfl) ?_
        refine V_getR dX10_rehearsals_99 fl_X10_246 (by first | assumption | exact ⟨by decide, rfl⟩) (by first | assumption | rfl) ?_
        refine V_iload_n dX10_rehearsals_102 rfl rfl ?_
        refine V_ial dX10_rehearsals_103 (by first | assumption | exact ⟨by decide, rfl⟩) (show ix _ xx 32 from ⟨rfl, by omega⟩) ?_
        refine V_goto (tgt := 109) dX10_rehearsals_104 (by decide) ?_
        refine V_ireturn dX10_rehearsals_109 rfl rfl rfl (by decide) (by decide) ?_
        rw [c9 xx _ hget, hget]
        exact hok _
      · refine V_iload_n dX10_rehearsals_84 rfl rfl (V_aload_n dX10_rehearsals_85 rfl rfl ?_)
        refine V_getR dX10_rehearsals_86 fl_X10_78 (by first | assumption | exact ⟨by decide, rfl⟩) (by first | assumption | rfl) ?_
        refine V_getI dX10_rehearsals_89 fl_X10_243 (by first | assumption | exact ⟨by decide, rfl⟩) ?_
        refine V_icmp_ge_t (tgt := 107) dX10_rehearsals_92 (by decide) (by rw [c6, lit_le (by omega) (by omega)]; omega) ?_
        refine V_bipush (v := (-4)) dX10_rehearsals_107 (by decide) ?_
        refine V_ireturn dX10_rehearsals_109 rfl rfl rfl (by decide) (by decide) ?_
        rw [List.getElem?_eq_none (by omega)]
        exact hok _
  · refine V_iload_n dX10_rehearsals_0 rfl rfl ?_
    refine V_if_lt_f (tgt := 16) dX10_rehearsals_1 (by decide) (h0) ?_
    refine V_iload_n dX10_rehearsals_4 rfl rfl (V_bipush (v := 99) dX10_rehearsals_5 (by decide) ?_)
    refine V_icmp_gt_f (tgt := 16) dX10_rehearsals_7 (by decide) (h1) ?_
    refine V_iload_n dX10_rehearsals_10 rfl rfl (V_bipush (v := (-3)) dX10_rehearsals_11 (by decide) ?_)
    refine V_icmp_ge_f (tgt := 18) dX10_rehearsals_13 (by decide) (h3) ?_
    refine V_iconst (v := (-1)) dX10_rehearsals_16 (by decide) ?_
    refine V_ireturn dX10_rehearsals_17 rfl rfl rfl (by decide) (by decide) ?_
    rw [a_rhs, decide_eq_false h3, Bool.and_false]; exact OK.same h'
end
