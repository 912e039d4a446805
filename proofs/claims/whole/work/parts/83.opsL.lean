/-! Calls of the class: count -/
def a_count (len : Nat) (K : KT) (D : Di) (kp : Nat) (x : Int32) : Int32 := if x = 0 then nI (K 0 0) else if x = 1 then nI (K 0 1) else if x = 2 then nI (K 0 2) else if x = 3 then nI len else if x = 4 then nI D.1 else if x = 5 then nI kp else if x = 6 then nI (K 0 3) else -1
theorem to_lit {x : Int32} {v : Int} (w : Int32) (h : x.toInt = v) (e : w.toInt = v) : x = w := Int32.toInt_inj.mp (by rw [h, e])
section
variable {E : En} {I I' : TI} {J J' : TJ} {R : TR} {t : Nat → Nat} {len : Nat} {K : KT} {D D1 D2 : Di} {kp : Nat} {tl : Nat → Int32} {co dr : Nat} {cc a1 a2 : Option Nat}
theorem op_count {d : Nat} (h : CS t len K D D1 D2 kp tl I J R) {x : Int32} : Cal E d M_X10_count [.ref 0, .int x] NC I J R (OK t len K D D1 D2 kp tl (some (.int (a_count len K D kp x))) I J) := by
  have h' := h
  obtain ⟨co, dr, cc, a1, a2, hw, rfl, hX, hS, hT, hD, hC⟩ := h
  have hco := hw.co
  have hrc : RR co dr cc a1 a2 0 3 = some co := rfl
  obtain ⟨_, _, _, _, _, _, _, _, _, _, _, _, _, _, _, _, _, _, _, _, _, _, _⟩ := f_co (co := co) (dr := dr) (cc := cc) (a1 := a1) (a2 := a2) (hco)
  refine Cal_of kn_X10_count rfl (Nat.le_of_ble_eq_true rfl) ?_
  refine V_iload_n dX10_count_0 rfl rfl ?_
  by_cases hin : 0 ≤ x.toInt ∧ x.toInt ≤ 6
  · rcases (show x.toInt = 0 ∨ x.toInt = 1 ∨ x.toInt = 2 ∨ x.toInt = 3 ∨ x.toInt = 4 ∨ x.toInt = 5 ∨ x.toInt = 6 by omega) with z | z | z | z | z | z | z
    · obtain rfl := to_lit 0 z (by decide)
      refine V_tableIn (off := 43) (tgt := 44) dX10_count_1 (by decide) (by decide) (by decide) (by decide) ?_
      refine V_aload_n dX10_count_44 rfl rfl ?_
      refine V_getR dX10_count_45 fl_X10_23 (by first | assumption | exact ⟨by decide, rfl⟩) (by first | assumption | rfl) ?_
      refine V_getI dX10_count_48 fl_X10_110 (by first | assumption | exact ⟨by decide, rfl⟩) ?_
      refine V_ireturn dX10_count_51 rfl rfl rfl (by decide) (by decide) ?_
      rw [hX.1.1]; exact OK.same h'
    · obtain rfl := to_lit 1 z (by decide)
      refine V_tableIn (off := 51) (tgt := 52) dX10_count_1 (by decide) (by decide) (by decide) (by decide) ?_
      refine V_aload_n dX10_count_52 rfl rfl ?_
      refine V_getR dX10_count_53 fl_X10_23 (by first | assumption | exact ⟨by decide, rfl⟩) (by first | assumption | rfl) ?_
      refine V_getI dX10_count_56 fl_X10_113 (by first | assumption | exact ⟨by decide, rfl⟩) ?_
      refine V_ireturn dX10_count_59 rfl rfl rfl (by decide) (by decide) ?_
      rw [hX.1.2.1]; exact OK.same h'
    · obtain rfl := to_lit 2 z (by decide)
      refine V_tableIn (off := 59) (tgt := 60) dX10_count_1 (by decide) (by decide) (by decide) (by decide) ?_
      refine V_aload_n dX10_count_60 rfl rfl ?_
      refine V_getR dX10_count_61 fl_X10_23 (by first | assumption | exact ⟨by decide, rfl⟩) (by first | assumption | rfl) ?_
      refine V_getR dX10_count_64 fl_X10_166 (by first | assumption | exact ⟨by decide, rfl⟩) (by first | assumption | rfl) ?_
      refine V_getI dX10_count_67 fl_X10_314 (by first | assumption | exact ⟨by decide, rfl⟩) ?_
      refine V_ireturn dX10_count_70 rfl rfl rfl (by decide) (by decide) ?_
      rw [hX.2.1.1]; exact OK.same h'
    · obtain rfl := to_lit 3 z (by decide)
      refine V_tableIn (off := 70) (tgt := 71) dX10_count_1 (by decide) (by decide) (by decide) (by decide) ?_
      refine V_aload_n dX10_count_71 rfl rfl ?_
      refine V_getI dX10_count_72 fl_X10_102 (by first | assumption | exact ⟨by decide, rfl⟩) ?_
      refine V_ireturn dX10_count_75 rfl rfl rfl (by decide) (by decide) ?_
      rw [hT.2]; exact OK.same h'
    · obtain rfl := to_lit 4 z (by decide)
      refine V_tableIn (off := 75) (tgt := 76) dX10_count_1 (by decide) (by decide) (by decide) (by decide) ?_
      refine V_aload_n dX10_count_76 rfl rfl ?_
      refine V_getR dX10_count_77 fl_X10_33 (by first | assumption | exact ⟨by decide, rfl⟩) (by first | assumption | rfl) ?_
      refine V_getI dX10_count_80 fl_X10_249 (by first | assumption | exact ⟨by decide, rfl⟩) ?_
      refine V_ireturn dX10_count_83 rfl rfl rfl (by decide) (by decide) ?_
      rw [hD.1.1]; exact OK.same h'
    · obtain rfl := to_lit 5 z (by decide)
      refine V_tableIn (off := 83) (tgt := 84) dX10_count_1 (by decide) (by decide) (by decide) (by decide) ?_
      refine V_aload_n dX10_count_84 rfl rfl ?_
      refine V_getI dX10_count_85 fl_X10_117 (by first | assumption | exact ⟨by decide, rfl⟩) ?_
      refine V_ireturn dX10_count_88 rfl rfl rfl (by decide) (by decide) ?_
      rw [hD.2.2.2.1]; exact OK.same h'
    · obtain rfl := to_lit 6 z (by decide)
      refine V_tableIn (off := 88) (tgt := 89) dX10_count_1 (by decide) (by decide) (by decide) (by decide) ?_
      refine V_aload_n dX10_count_89 rfl rfl ?_
      refine V_getR dX10_count_90 fl_X10_23 (by first | assumption | exact ⟨by decide, rfl⟩) (by first | assumption | rfl) ?_
      refine V_getI dX10_count_93 fl_X10_317 (by first | assumption | exact ⟨by decide, rfl⟩) ?_
      refine V_ireturn dX10_count_96 rfl rfl rfl (by decide) (by decide) ?_
      rw [hX.1.2.2.1]; exact OK.same h'
  · have ne : ∀ w : Int32, 0 ≤ w.toInt → w.toInt ≤ 6 → ¬ x = w := fun w a b z => hin (by rw [z]; exact ⟨a, b⟩)
    refine V_tableOut (tgt := 97) dX10_count_1 (by omega) (by decide) ?_
    refine V_iconst (v := (-1)) dX10_count_97 (by decide) ?_
    refine V_ireturn dX10_count_98 rfl rfl rfl (by decide) (by decide) ?_
    rw [a_count, if_neg (ne _ (by decide) (by decide)), if_neg (ne _ (by decide) (by decide)), if_neg (ne _ (by decide) (by decide)), if_neg (ne _ (by decide) (by decide)), if_neg (ne _ (by decide) (by decide)), if_neg (ne _ (by decide) (by decide)), if_neg (ne _ (by decide) (by decide))]
    exact OK.same h'
end
