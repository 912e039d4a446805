/-! Calls of the class: player -/
def a_player (K : KT) (p x : Int32) : Int32 := if inR p (K 0 0) then (if x = 0 then nI (K 1 (cl p)) else if x = 1 then nI (K 2 (cl p)) else if x = 2 then nI (mk (fun i => decide (K 7 i = cl p + 1)) (K 0 1)) else if x = 3 then nI (K 3 (cl p)) else if x = 4 then nI (mayM K (cl p)) else -1) else -1
section
variable {E : En} {I I' : TI} {J J' : TJ} {R : TR} {t : Nat → Nat} {len : Nat} {K : KT} {D D1 D2 : Di} {kp : Nat} {tl : Nat → Int32} {co dr : Nat} {cc a1 a2 : Option Nat}
theorem op_player {d : Nat} (hd : 4 ≤ d) (hB : KB K) (h : CS t len K D D1 D2 kp tl I J R) {p x : Int32} : Cal E d M_X10_player [.ref 0, .int p, .int x] NC I J R (OK t len K D D1 D2 kp tl (some (.int (a_player K p x))) I J) := by
  have h' := h
  obtain ⟨co, dr, cc, a1, a2, hw, rfl, hX, hS, hT, hD, hC⟩ := h
  have hco := hw.co
  have hP := hB.1.1
  have hrc : RR co dr cc a1 a2 0 3 = some co := rfl
  obtain ⟨_, _, _, _, _, _, _, _, _, _, _, _, _, _, _, _, _, _, _, _, _, _, _⟩ := f_co (co := co) (dr := dr) (cc := cc) (a1 := a1) (a2 := a2) (hco)
  refine Cal_of kn_X10_player rfl (Nat.le_of_ble_eq_true rfl) ?_
  refine V_aload_n dX10_player_0 rfl rfl ?_
  refine V_getR dX10_player_1 fl_X10_23 (by first | assumption | exact ⟨by decide, rfl⟩) (by first | assumption | rfl) ?_
  refine V_iload_n dX10_player_4 rfl rfl ?_
  refine V_cV1i (M' := M_X3_hasPlayer) (d' := 1) dX10_player_5 (Or.inl ml_X10_131) kb_X3_hasPlayer (by first | assumption | exact ⟨by decide, rfl⟩) (by first | decide | omega) (by simp [Value.category]) ⟨by decide, by decide⟩ ?_
  refine sp_hasPlayer hco hX.1.1 (by omega) ⟨_, rfl, ?_⟩
  cases hv : inR p (K 0 0)
  · refine V_if_ne_f (tgt := 13) dX10_player_8 (by decide) (rfl) ?_
    refine V_iconst (v := (-1)) dX10_player_11 (by decide) ?_
    refine V_ireturn dX10_player_12 rfl rfl rfl (by decide) (by decide) ?_
    rw [a_player, hv]; exact OK.same h'
  · obtain ⟨q1, q2⟩ := inR_cl hv (by omega)
    rw [a_player, hv, if_pos rfl]
    generalize hkk : cl p = kk at *
    subst q2
    refine V_if_ne_t (tgt := 13) dX10_player_8 (by decide) (by decide) ?_
    refine V_iload_n dX10_player_13 rfl rfl ?_
    by_cases hin : 0 ≤ x.toInt ∧ x.toInt ≤ 4
    · rcases (show x.toInt = 0 ∨ x.toInt = 1 ∨ x.toInt = 2 ∨ x.toInt = 3 ∨ x.toInt = 4 by omega) with z | z | z | z | z
      · obtain rfl := to_lit 0 z (by decide)
        refine V_tableIn (off := 34) (tgt := 48) dX10_player_14 (by decide) (by decide) (by decide) (by decide) ?_
        refine V_aload_n dX10_player_48 rfl rfl ?_
        refine V_getR dX10_player_49 fl_X10_23 (by first | assumption | exact ⟨by decide, rfl⟩) (by first | assumption | rfl) ?_
        refine V_getR dX10_player_52 fl_X10_135 (by first | assumption | exact ⟨by decide, rfl⟩) (by first | assumption | rfl) ?_
        refine V_iload_n dX10_player_55 rfl rfl ?_
        refine V_ial dX10_player_56 (by first | assumption | exact ⟨by decide, rfl⟩) (show ix _ kk 10 from ⟨rfl, by omega⟩) ?_
        refine V_ireturn dX10_player_57 rfl rfl rfl (by decide) (by decide) ?_
        rw [(hX.2.2.1 kk q1).1]; exact OK.same h'
      · obtain rfl := to_lit 1 z (by decide)
        refine V_tableIn (off := 44) (tgt := 58) dX10_player_14 (by decide) (by decide) (by decide) (by decide) ?_
        refine V_aload_n dX10_player_58 rfl rfl ?_
        refine V_getR dX10_player_59 fl_X10_23 (by first | assumption | exact ⟨by decide, rfl⟩) (by first | assumption | rfl) ?_
        refine V_getR dX10_player_62 fl_X10_138 (by first | assumption | exact ⟨by decide, rfl⟩) (by first | assumption | rfl) ?_
        refine V_iload_n dX10_player_65 rfl rfl ?_
        refine V_ial dX10_player_66 (by first | assumption | exact ⟨by decide, rfl⟩) (show ix _ kk 10 from ⟨rfl, by omega⟩) ?_
        refine V_ireturn dX10_player_67 rfl rfl rfl (by decide) (by decide) ?_
        rw [(hX.2.2.1 kk q1).2]; exact OK.same h'
      · obtain rfl := to_lit 2 z (by decide)
        refine V_tableIn (off := 54) (tgt := 68) dX10_player_14 (by decide) (by decide) (by decide) (by decide) ?_
        refine V_aload_n dX10_player_68 rfl rfl ?_
        refine V_getR dX10_player_69 fl_X10_23 (by first | assumption | exact ⟨by decide, rfl⟩) (by first | assumption | rfl) ?_
        refine V_iload_n dX10_player_72 rfl rfl ?_
        refine V_cV1i (M' := M_X3_ownParts) (d' := 1) dX10_player_73 (Or.inl ml_X10_141) kb_X3_ownParts (by first | assumption | exact ⟨by decide, rfl⟩) (by first | decide | omega) (by simp [Value.category]) ⟨by decide, by decide⟩ ?_
        refine sp_ownParts hco hB hX (by omega) ⟨_, rfl, ?_⟩
        refine V_ireturn dX10_player_76 rfl rfl rfl (by decide) (by decide) ?_
        exact OK.same h'
      · obtain rfl := to_lit 3 z (by decide)
        refine V_tableIn (off := 63) (tgt := 77) dX10_player_14 (by decide) (by decide) (by decide) (by decide) ?_
        refine V_aload_n dX10_player_77 rfl rfl ?_
        refine V_getR dX10_player_78 fl_X10_23 (by first | assumption | exact ⟨by decide, rfl⟩) (by first | assumption | rfl) ?_
        refine V_getR dX10_player_81 fl_X10_145 (by first | assumption | exact ⟨by decide, rfl⟩) (by first | assumption | rfl) ?_
        refine V_iload_n dX10_player_84 rfl rfl ?_
        refine V_ial dX10_player_85 (by first | assumption | exact ⟨by decide, rfl⟩) (show ix _ kk 10 from ⟨rfl, by omega⟩) ?_
        refine V_ireturn dX10_player_86 rfl rfl rfl (by decide) (by decide) ?_
        rw [hX.2.2.2.1 kk (by omega)]; exact OK.same h'
      · obtain rfl := to_lit 4 z (by decide)
        refine V_tableIn (off := 73) (tgt := 87) dX10_player_14 (by decide) (by decide) (by decide) (by decide) ?_
        refine V_aload_n dX10_player_87 rfl rfl ?_
        refine V_getR dX10_player_88 fl_X10_23 (by first | assumption | exact ⟨by decide, rfl⟩) (by first | assumption | rfl) ?_
        refine V_iload_n dX10_player_91 rfl rfl ?_
        refine V_cV1i (M' := M_X3_playable) (d' := 3) dX10_player_92 (Or.inl ml_X10_148) kb_X3_playable (by first | assumption | exact ⟨by decide, rfl⟩) (by first | decide | omega) (by simp [Value.category]) ⟨by decide, by decide⟩ ?_
        refine sp_playable hco hB hX hS q1 ⟨_, rfl, ?_⟩
        refine V_ireturn dX10_player_95 rfl rfl rfl (by decide) (by decide) ?_
        exact OK.same h'
    · have ne : ∀ w : Int32, 0 ≤ w.toInt → w.toInt ≤ 4 → ¬ x = w := fun w a b z => hin (by rw [z]; exact ⟨a, b⟩)
      refine V_tableOut (tgt := 96) dX10_player_14 (by omega) (by decide) ?_
      refine V_iconst (v := (-1)) dX10_player_96 (by decide) ?_
      refine V_ireturn dX10_player_97 rfl rfl rfl (by decide) (by decide) ?_
      rw [if_neg (ne _ (by decide) (by decide)), if_neg (ne _ (by decide) (by decide)), if_neg (ne _ (by decide) (by decide)), if_neg (ne _ (by decide) (by decide)), if_neg (ne _ (by decide) (by decide))]
      exact OK.same h'
end
