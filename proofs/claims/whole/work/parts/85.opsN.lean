/-! Calls of the class: part -/
def a_part (K : KT) (i x : Int32) : Int32 := if inR i (K 0 1) then (if x = 0 then nI (K 4 (cl i)) else if x = 1 then nI (K 5 (cl i)) else if x = 2 then nI (K 6 (cl i)) else if x = 3 then nI (K 8 (cl i)) else if x = 4 then nI (mk (fun s => (K 9 s).testBit (cl i)) (K 0 2)) else if x = 5 then owv (K 7 (cl i)) else -1) else -1
section
variable {E : En} {I I' : TI} {J J' : TJ} {R : TR} {t : Nat → Nat} {len : Nat} {K : KT} {D D1 D2 : Di} {kp : Nat} {tl : Nat → Int32} {co dr : Nat} {cc a1 a2 : Option Nat}
theorem op_part {d : Nat} (hd : 3 ≤ d) (hB : KB K) (h : CS t len K D D1 D2 kp tl I J R) {i x : Int32} : Cal E d M_X10_part [.ref 0, .int i, .int x] NC I J R (OK t len K D D1 D2 kp tl (some (.int (a_part K i x))) I J) := by
  have h' := h
  obtain ⟨co, dr, cc, a1, a2, hw, rfl, hX, hS, hT, hD, hC⟩ := h
  have hco := hw.co
  have hQ := hB.1.2.1
  have hrc : RR co dr cc a1 a2 0 3 = some co := rfl
  obtain ⟨_, _, _, _, _, _, _, _, _, _, _, _, _, _, _, _, _, _, _, _, _, _, _⟩ := f_co (co := co) (dr := dr) (cc := cc) (a1 := a1) (a2 := a2) (hco)
  refine Cal_of kn_X10_part rfl (Nat.le_of_ble_eq_true rfl) ?_
  refine V_aload_n dX10_part_0 rfl rfl ?_
  refine V_getR dX10_part_1 fl_X10_23 (by first | assumption | exact ⟨by decide, rfl⟩) (by first | assumption | rfl) ?_
  refine V_iload_n dX10_part_4 rfl rfl ?_
  refine V_cV1i (M' := M_X3_hasPart) (d' := 1) dX10_part_5 (Or.inl ml_X10_151) kb_X3_hasPart (by first | assumption | exact ⟨by decide, rfl⟩) (by first | decide | omega) (by simp [Value.category]) ⟨by decide, by decide⟩ ?_
  refine sp_hasPart hco hX.1.2.1 (by omega) ⟨_, rfl, ?_⟩
  cases hv : inR i (K 0 1)
  · refine V_if_ne_f (tgt := 13) dX10_part_8 (by decide) (rfl) ?_
    refine V_iconst (v := (-1)) dX10_part_11 (by decide) ?_
    refine V_ireturn dX10_part_12 rfl rfl rfl (by decide) (by decide) ?_
    rw [a_part, hv]; exact OK.same h'
  · obtain ⟨q1, q2⟩ := inR_cl hv (by omega)
    rw [a_part, hv, if_pos rfl]
    generalize hkk : cl i = kk at *
    subst q2
    obtain ⟨f1, f2, f3⟩ := hX.2.2.2.2.1 kk q1
    refine V_if_ne_t (tgt := 13) dX10_part_8 (by decide) (by decide) ?_
    refine V_iload_n dX10_part_13 rfl rfl ?_
    by_cases hin : 0 ≤ x.toInt ∧ x.toInt ≤ 5
    · rcases (show x.toInt = 0 ∨ x.toInt = 1 ∨ x.toInt = 2 ∨ x.toInt = 3 ∨ x.toInt = 4 ∨ x.toInt = 5 by omega) with z | z | z | z | z | z
      · obtain rfl := to_lit 0 z (by decide)
        refine V_tableIn (off := 38) (tgt := 52) dX10_part_14 (by decide) (by decide) (by decide) (by decide) ?_
        refine V_aload_n dX10_part_52 rfl rfl ?_
        refine V_getR dX10_part_53 fl_X10_23 (by first | assumption | exact ⟨by decide, rfl⟩) (by first | assumption | rfl) ?_
        refine V_getR dX10_part_56 fl_X10_154 (by first | assumption | exact ⟨by decide, rfl⟩) (by first | assumption | rfl) ?_
        refine V_iload_n dX10_part_59 rfl rfl ?_
        refine V_ial dX10_part_60 (by first | assumption | exact ⟨by decide, rfl⟩) (show ix _ kk 8 from ⟨rfl, by omega⟩) ?_
        refine V_ireturn dX10_part_61 rfl rfl rfl (by decide) (by decide) ?_
        rw [f1]; exact OK.same h'
      · obtain rfl := to_lit 1 z (by decide)
        refine V_tableIn (off := 48) (tgt := 62) dX10_part_14 (by decide) (by decide) (by decide) (by decide) ?_
        refine V_aload_n dX10_part_62 rfl rfl ?_
        refine V_getR dX10_part_63 fl_X10_23 (by first | assumption | exact ⟨by decide, rfl⟩) (by first | assumption | rfl) ?_
        refine V_getR dX10_part_66 fl_X10_157 (by first | assumption | exact ⟨by decide, rfl⟩) (by first | assumption | rfl) ?_
        refine V_iload_n dX10_part_69 rfl rfl ?_
        refine V_ial dX10_part_70 (by first | assumption | exact ⟨by decide, rfl⟩) (show ix _ kk 8 from ⟨rfl, by omega⟩) ?_
        refine V_ireturn dX10_part_71 rfl rfl rfl (by decide) (by decide) ?_
        rw [f2]; exact OK.same h'
      · obtain rfl := to_lit 2 z (by decide)
        refine V_tableIn (off := 58) (tgt := 72) dX10_part_14 (by decide) (by decide) (by decide) (by decide) ?_
        refine V_aload_n dX10_part_72 rfl rfl ?_
        refine V_getR dX10_part_73 fl_X10_23 (by first | assumption | exact ⟨by decide, rfl⟩) (by first | assumption | rfl) ?_
        refine V_getR dX10_part_76 fl_X10_160 (by first | assumption | exact ⟨by decide, rfl⟩) (by first | assumption | rfl) ?_
        refine V_iload_n dX10_part_79 rfl rfl ?_
        refine V_ial dX10_part_80 (by first | assumption | exact ⟨by decide, rfl⟩) (show ix _ kk 8 from ⟨rfl, by omega⟩) ?_
        refine V_ireturn dX10_part_81 rfl rfl rfl (by decide) (by decide) ?_
        rw [f3]; exact OK.same h'
      · obtain rfl := to_lit 3 z (by decide)
        refine V_tableIn (off := 68) (tgt := 82) dX10_part_14 (by decide) (by decide) (by decide) (by decide) ?_
        refine V_aload_n dX10_part_82 rfl rfl ?_
        refine V_getR dX10_part_83 fl_X10_23 (by first | assumption | exact ⟨by decide, rfl⟩) (by first | assumption | rfl) ?_
        refine V_getI dX10_part_86 fl_X10_163 (by first | assumption | exact ⟨by decide, rfl⟩) ?_
        refine V_iload_n dX10_part_89 rfl rfl (V_ishr dX10_part_90 (V_iconst (v := 1) dX10_part_91 (by decide) (V_iand dX10_part_92 ?_)))
        refine V_ireturn dX10_part_93 rfl rfl rfl (by decide) (by decide) ?_
        have h8 := (hB.2.2.2.1 kk q1).2.2.2.2
        have hb : (cutM K).testBit kk = decide (K 8 kk = 1) := by unfold cutM; rw [mk_tb, decide_eq_true q1]; rfl
        rw [hX.1.2.2.2.1, bit_nI (Nat.lt_of_lt_of_le (cutM_lt K) (Nat.pow_le_pow_right (by decide) (by omega))) (by omega), hb]
        have e3 : (if decide (K 8 kk = 1) = true then (1 : Int32) else 0) = nI (K 8 kk) := by
          rcases (show K 8 kk = 0 ∨ K 8 kk = 1 by omega) with e | e <;> rw [e] <;> decide
        rw [e3]
        exact OK.same h'
      · obtain rfl := to_lit 4 z (by decide)
        refine V_tableIn (off := 80) (tgt := 94) dX10_part_14 (by decide) (by decide) (by decide) (by decide) ?_
        refine V_aload_n dX10_part_94 rfl rfl ?_
        refine V_getR dX10_part_95 fl_X10_23 (by first | assumption | exact ⟨by decide, rfl⟩) (by first | assumption | rfl) ?_
        refine V_getR dX10_part_98 fl_X10_166 (by first | assumption | exact ⟨by decide, rfl⟩) (by first | assumption | rfl) ?_
        refine V_iload_n dX10_part_101 rfl rfl ?_
        refine V_cV1i (M' := M_X5_scenesOf) (d' := 2) dX10_part_102 (Or.inl ml_X10_170) kb_X5_scenesOf (by first | assumption | exact ⟨by decide, rfl⟩) (by first | decide | omega) (by simp [Value.category]) ⟨by decide, by decide⟩ ?_
        refine sp_scenesOf hco hB hX (by omega) ⟨_, rfl, ?_⟩
        refine V_ireturn dX10_part_105 rfl rfl rfl (by decide) (by decide) ?_
        exact OK.same h'
      · obtain rfl := to_lit 5 z (by decide)
        refine V_tableIn (off := 92) (tgt := 106) dX10_part_14 (by decide) (by decide) (by decide) (by decide) ?_
        refine V_aload_n dX10_part_106 rfl rfl ?_
        refine V_getR dX10_part_107 fl_X10_23 (by first | assumption | exact ⟨by decide, rfl⟩) (by first | assumption | rfl) ?_
        refine V_getR dX10_part_110 fl_X10_175 (by first | assumption | exact ⟨by decide, rfl⟩) (by first | assumption | rfl) ?_
        refine V_iload_n dX10_part_113 rfl rfl ?_
        refine V_ial dX10_part_114 (by first | assumption | exact ⟨by decide, rfl⟩) (show ix _ kk 8 from ⟨rfl, by omega⟩) ?_
        refine V_ireturn dX10_part_115 rfl rfl rfl (by decide) (by decide) ?_
        rw [hX.2.2.2.2.2.1 kk (by omega)]; exact OK.same h'
    · have ne : ∀ w : Int32, 0 ≤ w.toInt → w.toInt ≤ 5 → ¬ x = w := fun w a b z => hin (by rw [z]; exact ⟨a, b⟩)
      refine V_tableOut (tgt := 116) dX10_part_14 (by omega) (by decide) ?_
      refine V_iconst (v := (-1)) dX10_part_116 (by decide) ?_
      refine V_ireturn dX10_part_117 rfl rfl rfl (by decide) (by decide) ?_
      rw [if_neg (ne _ (by decide) (by decide)), if_neg (ne _ (by decide) (by decide)), if_neg (ne _ (by decide) (by decide)), if_neg (ne _ (by decide) (by decide)), if_neg (ne _ (by decide) (by decide)), if_neg (ne _ (by decide) (by decide))]
      exact OK.same h'
end
