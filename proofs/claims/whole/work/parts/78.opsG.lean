/-! Calls of the class: rehearse, night -/
def d_say (K : KT) (D : Di) (p i : Nat) : Di := (D.1, (fun q => if q = 8 * p + i then D.1 else D.2.1 q), D.2.2)
section
variable {E : En} {I I' : TI} {J J' : TJ} {R : TR} {t : Nat → Nat} {len : Nat} {K : KT} {D D1 D2 : Di} {kp : Nat} {tl : Nat → Int32} {co dr : Nat} {cc a1 a2 : Option Nat}
theorem op_rehearse {d : Nat} (hd : 3 ≤ d) (hB : KB K) (h : CS t len K D D1 D2 kp tl I J R) {p i : Int32} : Cal E d M_X10_rehearse [.ref 0, .int p, .int i] NC I J R (OK t len K (d_reh K D p i) D1 D2 kp tl (some (.int (a_reh K p i))) I J) := by
  have hP := hB.1.1
  have hQ := hB.1.2.1
  have h' := h
  obtain ⟨co, dr, cc, a1, a2, hw, rfl, hX, hS, hT, hD, hC⟩ := h
  have hco := hw.co
  have hrc : RR co dr cc a1 a2 0 3 = some co := rfl
  obtain ⟨_, _, _, _, _, _, _, _, _, _, _, _, _, _, _, _, _, _, _, _, _, _, _⟩ := f_co (co := co) (dr := dr) (cc := cc) (a1 := a1) (a2 := a2) (hco)
  refine Cal_of kn_X10_rehearse rfl (Nat.le_of_ble_eq_true rfl) ?_
  refine V_aload_n dX10_rehearse_0 rfl rfl ?_
  refine V_getR dX10_rehearse_1 fl_X10_23 (by first | assumption | exact ⟨by decide, rfl⟩) (by first | assumption | rfl) ?_
  refine V_iload_n dX10_rehearse_4 rfl rfl ?_
  refine V_cV1i (M' := M_X3_hasPlayer) (d' := 1) dX10_rehearse_5 (Or.inl ml_X10_131) kb_X3_hasPlayer (by first | assumption | exact ⟨by decide, rfl⟩) (by first | decide | omega) (by simp [Value.category]) ⟨by decide, by decide⟩ ?_
  refine sp_hasPlayer hco hX.1.1 (by omega) ⟨_, rfl, ?_⟩
  cases hv : inR p (K 0 0)
  · refine V_if_eq_t (tgt := 22) dX10_rehearse_8 (by decide) (rfl) ?_
    refine V_iconst (v := (-1)) dX10_rehearse_22 (by decide) ?_
    refine V_ireturn dX10_rehearse_23 rfl rfl rfl (by decide) (by decide) ?_
    rw [a_reh, d_reh, hv]
    exact OK.same h'
  · obtain ⟨q1, q2⟩ := inR_cl hv (by omega)
    refine V_if_eq_f (tgt := 22) dX10_rehearse_8 (by decide) (by decide) ?_
    refine V_aload_n dX10_rehearse_11 rfl rfl ?_
    refine V_getR dX10_rehearse_12 fl_X10_23 (by first | assumption | exact ⟨by decide, rfl⟩) (by first | assumption | rfl) ?_
    refine V_iload_n dX10_rehearse_15 rfl rfl ?_
    refine V_cV1i (M' := M_X3_hasPart) (d' := 1) dX10_rehearse_16 (Or.inl ml_X10_151) kb_X3_hasPart (by first | assumption | exact ⟨by decide, rfl⟩) (by first | decide | omega) (by simp [Value.category]) ⟨by decide, by decide⟩ ?_
    refine sp_hasPart hco hX.1.2.1 (by omega) ⟨_, rfl, ?_⟩
    cases hv2 : inR i (K 0 1)
    · refine V_if_ne_f (tgt := 24) dX10_rehearse_19 (by decide) (rfl) ?_
      refine V_iconst (v := (-1)) dX10_rehearse_22 (by decide) ?_
      refine V_ireturn dX10_rehearse_23 rfl rfl rfl (by decide) (by decide) ?_
      rw [a_reh, d_reh, hv, hv2]
      exact OK.same h'
    · obtain ⟨q3, q4⟩ := inR_cl hv2 (by omega)
      rw [a_reh, d_reh, hv, hv2]
      generalize hkk : cl p = kk at *
      generalize hww : cl i = ww at *
      subst q2 q4
      refine V_if_ne_t (tgt := 24) dX10_rehearse_19 (by decide) (by decide) ?_
      refine V_aload_n dX10_rehearse_24 rfl rfl ?_
      refine V_getR dX10_rehearse_25 fl_X10_23 (by first | assumption | exact ⟨by decide, rfl⟩) (by first | assumption | rfl) ?_
      refine V_iload_n dX10_rehearse_28 rfl rfl (V_iload_n dX10_rehearse_29 rfl rfl ?_)
      refine V_cV2i (M' := M_X3_mayPlay) (d' := 2) dX10_rehearse_30 (Or.inl ml_X10_219) kb_X3_mayPlay (by first | assumption | exact ⟨by decide, rfl⟩) (by first | decide | omega) (by simp [Value.category]) ⟨by decide, by decide⟩ ?_
      refine sp_mayPlay hco hB hS q1 q3 ⟨_, rfl, ?_⟩
      cases hm : may K kk ww
      · refine V_if_ne_f (tgt := 39) dX10_rehearse_33 (by decide) (rfl) ?_
        refine V_bipush (v := (-2)) dX10_rehearse_36 (by decide) ?_
        refine V_ireturn dX10_rehearse_38 rfl rfl rfl (by decide) (by decide) ?_
        exact OK.same h'
      · refine V_if_ne_t (tgt := 39) dX10_rehearse_33 (by decide) (by decide) ?_
        refine V_aload_n dX10_rehearse_39 rfl rfl ?_
        refine V_getR dX10_rehearse_40 fl_X10_33 (by first | assumption | exact ⟨by decide, rfl⟩) (by first | assumption | rfl) ?_
        refine V_iload_n dX10_rehearse_43 rfl rfl (V_iload_n dX10_rehearse_44 rfl rfl ?_)
        refine V_cV2v (M' := M_X4_sayToday) (d' := 1) dX10_rehearse_45 (Or.inl ml_X10_226) kb_X4_sayToday (by first | assumption | exact ⟨by decide, rfl⟩) (by first | decide | omega) (by simp [Value.category]) ⟨by decide, by decide⟩ ?_
        refine sp_sayToday (c := 32) (Or.inl rfl) (by omega) (by omega) ⟨rfl, ?_⟩
        have hX1 : CoX (up2 I 34 (8 * kk + ww) (I 32 0)) co K := hX.of (fun x y a b => by rw [u2n (by omega)])
        refine V_aload_n dX10_rehearse_48 rfl rfl ?_
        refine V_getR dX10_rehearse_49 fl_X10_23 (by first | assumption | exact ⟨by decide, rfl⟩) (by first | assumption | rfl) ?_
        refine V_iload_n dX10_rehearse_52 rfl rfl ?_
        refine V_cV1i (M' := M_X3_hours) (d' := 1) dX10_rehearse_53 (Or.inl ml_X10_230) kb_X3_hours (by first | assumption | exact ⟨by decide, rfl⟩) (by first | decide | omega) (by simp [Value.category]) ⟨by decide, by decide⟩ ?_
        refine sp_hours hco hB hX1 q3 ⟨_, rfl, ?_⟩
        refine V_ireturn dX10_rehearse_56 rfl rfl rfl (by decide) (by decide) ?_
        refine ⟨rfl, rfl, ⟨co, dr, cc, a1, a2, hw, rfl, hX1, hS.of (fun b => ⟨by rw [u2n (by omega)], by rw [u2n (by omega)]⟩), hT.of (fun y => by rw [u2n (by omega)]) (by rw [u2n (by omega)]), ⟨⟨by rw [u2n (by omega)]; exact hD.1.1, fun j hj => ?_, fun q hq => by rw [u2n (by omega)]; exact hD.1.2.2 q hq⟩, fun k => (hD.2.1 k).of (fun x y a b => by rw [u2n (by omega)]), fun k => (hD.2.2.1 k).of (fun x y a b => by rw [u2n (by omega)]), by rw [u2n (by omega)]; exact hD.2.2.2.1, fun q hq => by rw [u2n (by omega)]; exact hD.2.2.2.2 q hq⟩, hC.of (fun x y a b => by rw [u2n (by omega)]) (fun _ => rfl)⟩, fun x y a => by rw [u2n (by omega)], fun _ _ _ => rfl⟩
        show _ = nI (if j = 8 * kk + ww then D.1 else D.2.1 j)
        by_cases hj2 : j = 8 * kk + ww
        · rw [hj2, u2e, if_pos rfl]; exact hD.1.1
        · rw [u2n (Or.inr hj2), if_neg hj2]; exact hD.1.2.1 j hj
end
