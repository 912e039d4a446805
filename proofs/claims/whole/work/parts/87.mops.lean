/-! Calls of the reference: wipe, owed, told, wrong, lines, rehearse, rest, count, keep, back -/
theorem ixm {c a k len : Nat} (h : c * a + k < len) : ix (nI c * nI a + nI k) (c * a + k) len := ⟨by rw [pk_mul, nI_add], h⟩
theorem ixa {a k len : Nat} (h : a + k < len) : ix (nI a + nI k) (a + k) len := ⟨nI_add a k, h⟩
theorem ixn {k len : Nat} (h : k < len) : ix (nI k) k len := ⟨rfl, h⟩
section
variable {E : En} {I : TI} {J : TJ} {co dr : Nat} {cc a1 a2 : Option Nat} {Post : PT} {t : Nat → Nat} {len : Nat} {K : KT} {D D1 D2 : Di} {kp : Nat} {tl : Nat → Int32} {d : Nat}
theorem rop_wipe (h : MS t len K D D1 D2 kp tl I) : Cal E d M_X11_wipe [.ref 70] NC I J (RR co dr cc a1 a2) (MK t 0 K D D1 D2 kp tl (some (.int (nI len))) I J (RR co dr cc a1 a2)) := by
  obtain ⟨hB, hM, hR, hT, hD⟩ := h
  refine Cal_of kn_X11_wipe rfl (Nat.le_of_ble_eq_true rfl) ?_
  refine V_aload_n dX11_wipe_0 rfl rfl ?_
  refine V_getI dX11_wipe_1 fl_X11_128 (by first | assumption | exact ⟨by decide, rfl⟩) ?_
  refine V_istore_1 dX11_wipe_4 (by decide) rfl (V_aload_n dX11_wipe_5 rfl rfl (V_iconst (v := 0) dX11_wipe_6 (by decide) ?_))
  refine V_putI dX11_wipe_7 fl_X11_128 (by first | assumption | exact ⟨by decide, rfl⟩) ?_
  refine V_iload_n dX11_wipe_10 rfl rfl ?_
  refine V_ireturn dX11_wipe_11 rfl rfl rfl (by decide) (by decide) ?_
  refine ⟨by rw [hT.2.1], rfl, rfl, ⟨hB, hM.all hB (fun x y a b => u2n (by omega)), hR.of (fun y => u2n (by omega)) (fun y => u2n (by omega)), ⟨Nat.zero_le _, u2e, fun j hj => absurd hj (by show ¬ j < 0; omega)⟩, hD.of (fun x y a b => u2n (by omega)) (u2n (by omega))⟩, fun x y a => u2n (by omega), fun _ _ _ => rfl⟩
theorem rop_owed (hd : 3 ≤ d) (h : MS t len K D D1 D2 kp tl I) {p : Int32} : Cal E d M_X11_owed [.ref 70, .int p] NC I J (RR co dr cc a1 a2) (MK t len K D D1 D2 kp tl (some (.int (a_owed K D p))) I J (RR co dr cc a1 a2)) := by
  have h' := h
  obtain ⟨hB, hM, hR, hT, hD⟩ := h
  have hP := hB.1.1
  refine Cal_of kn_X11_owed rfl (Nat.le_of_ble_eq_true rfl) ?_
  refine V_aload_n dX11_owed_0 rfl rfl (V_iload_n dX11_owed_1 rfl rfl ?_)
  refine V_cV1i (M' := M_X11_isPlayer) (d' := 2) dX11_owed_2 (Or.inl ml_X11_195) kb_X11_isPlayer (by first | assumption | exact ⟨by decide, rfl⟩) (by first | decide | omega) (by simp [Value.category]) ⟨by decide, by decide⟩ ?_
  refine mr_isPlayer hM.n0 hP ⟨_, rfl, ?_⟩
  cases hv : inR p (K 0 0)
  · refine V_if_eq_t (tgt := 17) dX11_owed_5 (by decide) (rfl) ?_
    refine V_iconst (v := (-1)) dX11_owed_17 (by decide) ?_
    refine V_ireturn dX11_owed_18 rfl rfl rfl (by decide) (by decide) ?_
    rw [a_owed, hv]; exact MK.same h'
  · obtain ⟨q1, q2⟩ := inR_cl hv (by omega)
    refine V_if_eq_f (tgt := 17) dX11_owed_5 (by decide) (by decide) ?_
    refine V_aload_n dX11_owed_8 rfl rfl ?_
    refine V_getR dX11_owed_9 fl_X11_67 (by first | assumption | exact ⟨by decide, rfl⟩) (by first | assumption | rfl) ?_
    refine V_iload_n dX11_owed_12 rfl rfl ?_
    refine V_ial dX11_owed_13 (by first | assumption | exact ⟨by decide, rfl⟩) (show ix _ (cl p) 30 from ⟨q2, by omega⟩) ?_
    refine V_goto (tgt := 18) dX11_owed_14 (by decide) ?_
    refine V_ireturn dX11_owed_18 rfl rfl rfl (by decide) (by decide) ?_
    rw [a_owed, hv, hD.1.ow (by omega)]; exact MK.same h'
theorem rop_told (hd : 3 ≤ d) (h : MS t len K D D1 D2 kp tl I) {p s : Int32} : Cal E d M_X11_told [.ref 70, .int p, .int s] NC I J (RR co dr cc a1 a2) (MK t len K D D1 D2 kp (t_told K tl p s) (some (.int (a_told K tl p s))) I J (RR co dr cc a1 a2)) := by
  have h' := h
  obtain ⟨hB, hM, hR, hT, hD⟩ := h
  have hP := hB.1.1
  refine Cal_of kn_X11_told rfl (Nat.le_of_ble_eq_true rfl) ?_
  refine V_aload_n dX11_told_0 rfl rfl (V_iload_n dX11_told_1 rfl rfl ?_)
  refine V_cV1i (M' := M_X11_isPlayer) (d' := 2) dX11_told_2 (Or.inl ml_X11_195) kb_X11_isPlayer (by first | assumption | exact ⟨by decide, rfl⟩) (by first | decide | omega) (by simp [Value.category]) ⟨by decide, by decide⟩ ?_
  refine mr_isPlayer hM.n0 hP ⟨_, rfl, ?_⟩
  cases hv : inR p (K 0 0)
  · refine V_if_eq_t (tgt := 20) dX11_told_5 (by decide) (rfl) ?_
    refine V_iconst (v := (-1)) dX11_told_20 (by decide) ?_
    refine V_ireturn dX11_told_21 rfl rfl rfl (by decide) (by decide) ?_
    rw [a_told, t_told, hv]; exact MK.same h'
  · obtain ⟨q1, q2⟩ := inR_cl hv (by omega)
    refine V_if_eq_f (tgt := 20) dX11_told_5 (by decide) (by decide) ?_
    refine V_iload_n dX11_told_8 rfl rfl (V_i2l dX11_told_9 (V_lconst (v := 0) dX11_told_10 rfl (V_ldc2_w dX11_told_11 ct_X11_306 ?_)))
    refine V_cS3i (M' := M_X11_in) (d' := 1) dX11_told_14 (Or.inl ml_X11_124) kb_X11_in (by first | decide | omega) (by simp [Value.category]) ⟨by decide, by decide⟩ ?_
    refine mr_in ⟨_, rfl, ?_⟩
    have e9 : decide ((0 : Int64).toInt ≤ s.toInt64.toInt ∧ s.toInt64.toInt ≤ (99999 : Int64).toInt) = inR s 100000 := by
      rw [in_C (u := 0) (v := 99999) (by decide) (by decide)]
      exact decide_eq_decide.mpr (by omega)
    rw [e9]
    cases hs : inR s 100000
    · refine V_if_ne_f (tgt := 22) dX11_told_17 (by decide) (rfl) ?_
      refine V_iconst (v := (-1)) dX11_told_20 (by decide) ?_
      refine V_ireturn dX11_told_21 rfl rfl rfl (by decide) (by decide) ?_
      rw [a_told, t_told, hv, hs]; exact MK.same h'
    · refine V_if_ne_t (tgt := 22) dX11_told_17 (by decide) (by decide) ?_
      refine V_aload_n dX11_told_22 rfl rfl ?_
      refine V_getR dX11_told_23 fl_X11_70 (by first | assumption | exact ⟨by decide, rfl⟩) (by first | assumption | rfl) ?_
      refine V_iload_n dX11_told_26 rfl rfl ?_
      refine V_ial dX11_told_27 (by first | assumption | exact ⟨by decide, rfl⟩) (show ix _ (cl p) 10 from ⟨q2, by omega⟩) ?_
      refine V_istore_3 dX11_told_28 (by decide) rfl (V_aload_n dX11_told_29 rfl rfl ?_)
      refine V_getR dX11_told_30 fl_X11_70 (by first | assumption | exact ⟨by decide, rfl⟩) (by first | assumption | rfl) ?_
      refine V_iload_n dX11_told_33 rfl rfl (V_iload_n dX11_told_34 rfl rfl ?_)
      refine V_ias dX11_told_35 (by first | assumption | exact ⟨by decide, rfl⟩) (show ix _ (cl p) 10 from ⟨q2, by omega⟩) ?_
      refine V_iload_n dX11_told_36 rfl rfl ?_
      refine V_ireturn dX11_told_37 rfl rfl rfl (by decide) (by decide) ?_
      rw [a_told, t_told, hv, hs]
      refine ⟨by rw [hD.2.2.2.2 _ (by omega)]; rfl, rfl, rfl, ⟨hB, hM.all hB (fun x y a b => u2n (by omega)), hR.of (fun y => u2n (by omega)) (fun y => u2n (by omega)), hT.of (fun y => u2n (by omega)) (u2n (by omega)), ⟨hD.1.of (fun x y a b => u2n (by omega)), fun k => (hD.2.1 k).of (fun x y a b => u2n (by omega)), fun k => (hD.2.2.1 k).of (fun x y a b => u2n (by omega)), by rw [u2n (by omega)]; exact hD.2.2.2.1, fun q hq => ?_⟩⟩, fun x y a => u2n (by omega), fun _ _ _ => rfl⟩
      show _ = if q = cl p then s else tl q
      by_cases hqp : q = cl p
      · rw [hqp, u2e, if_pos rfl]
      · rw [u2n (Or.inr hqp), if_neg hqp]; exact hD.2.2.2.2 q hq
theorem rop_wrong (h : MS t len K D D1 D2 kp tl I) : Cal E d M_X11_wrong [.ref 70] NC I J (RR co dr cc a1 a2) (MK t len K D D1 D2 kp tl (some (.int (wrF D.2.2 tl (K 0 0) 0))) I J (RR co dr cc a1 a2)) := by
  have h' := h
  obtain ⟨hB, hM, hR, hT, hD⟩ := h
  have hP := hB.1.1
  refine Cal_of kn_X11_wrong rfl (Nat.le_of_ble_eq_true rfl) ?_
  refine V_iconst (v := 0) dX11_wrong_0 (by decide) (V_istore_1 dX11_wrong_1 (by decide) rfl ?_)
  have key : ∀ r p, p + r = K 0 0 → V E d M_X11_wrong (MK t len K D D1 D2 kp tl (some (.int (wrF D.2.2 tl r p))) I J (RR co dr cc a1 a2)) 2 [some (.ref 70), some (.int (nI p))] [] NC 0 0 I J (RR co dr cc a1 a2) := by
    intro r
    induction r with
    | zero =>
      intro p hp
      refine V_iload_n dX11_wrong_2 rfl rfl (V_aload_n dX11_wrong_3 rfl rfl ?_)
      refine V_getR dX11_wrong_4 fl_X11_13 (by first | assumption | exact ⟨by decide, rfl⟩) (by first | assumption | rfl) ?_
      refine V_iconst (v := 0) dX11_wrong_7 (by decide) ?_
      refine V_ial dX11_wrong_8 (by first | assumption | exact ⟨by decide, rfl⟩) (show ix _ 0 _ from ⟨rfl, by decide⟩) ?_
      refine V_icmp_ge_t (tgt := 35) dX11_wrong_9 (by decide) (by rw [hM.n0]; exact nI_le (by omega) (by omega)) ?_
      refine V_bipush (v := (-4)) dX11_wrong_35 (by decide) ?_
      refine V_ireturn dX11_wrong_37 rfl rfl rfl (by decide) (by decide) ?_
      exact MK.same h'
    | succ r ih =>
      intro p hp
      by_cases he : D.2.2 p = tl p
      · have ih2 := ih (p + 1) (by omega)
        refine V_iload_n dX11_wrong_2 rfl rfl (V_aload_n dX11_wrong_3 rfl rfl ?_)
        refine V_getR dX11_wrong_4 fl_X11_13 (by first | assumption | exact ⟨by decide, rfl⟩) (by first | assumption | rfl) ?_
        refine V_iconst (v := 0) dX11_wrong_7 (by decide) ?_
        refine V_ial dX11_wrong_8 (by first | assumption | exact ⟨by decide, rfl⟩) (show ix _ 0 _ from ⟨rfl, by decide⟩) ?_
        refine V_icmp_ge_f (tgt := 35) dX11_wrong_9 (by decide) (by rw [hM.n0]; exact nI_ge (by omega) (by omega)) ?_
        refine V_aload_n dX11_wrong_12 rfl rfl ?_
        refine V_getR dX11_wrong_13 fl_X11_67 (by first | assumption | exact ⟨by decide, rfl⟩) (by first | assumption | rfl) ?_
        refine V_iload_n dX11_wrong_16 rfl rfl ?_
        refine V_ial dX11_wrong_17 (by first | assumption | exact ⟨by decide, rfl⟩) (show ix _ p 30 from ⟨rfl, by omega⟩) ?_
        refine V_aload_n dX11_wrong_18 rfl rfl ?_
        refine V_getR dX11_wrong_19 fl_X11_70 (by first | assumption | exact ⟨by decide, rfl⟩) (by first | assumption | rfl) ?_
        refine V_iload_n dX11_wrong_22 rfl rfl ?_
        refine V_ial dX11_wrong_23 (by first | assumption | exact ⟨by decide, rfl⟩) (show ix _ p 10 from ⟨rfl, by omega⟩) ?_
        refine V_icmp_eq_t (tgt := 29) dX11_wrong_24 (by decide) (by rw [hD.1.ow (by omega), hD.2.2.2.2 p (by omega), he]) ?_
        refine V_iinc_1 (w := 1) dX11_wrong_29 (by decide) (by decide) rfl (V_goto (tgt := 2) dX11_wrong_32 (by decide) ?_)
        rw [nI_1, wrF, if_pos he]
        exact ih2
      · refine V_iload_n dX11_wrong_2 rfl rfl (V_aload_n dX11_wrong_3 rfl rfl ?_)
        refine V_getR dX11_wrong_4 fl_X11_13 (by first | assumption | exact ⟨by decide, rfl⟩) (by first | assumption | rfl) ?_
        refine V_iconst (v := 0) dX11_wrong_7 (by decide) ?_
        refine V_ial dX11_wrong_8 (by first | assumption | exact ⟨by decide, rfl⟩) (show ix _ 0 _ from ⟨rfl, by decide⟩) ?_
        refine V_icmp_ge_f (tgt := 35) dX11_wrong_9 (by decide) (by rw [hM.n0]; exact nI_ge (by omega) (by omega)) ?_
        refine V_aload_n dX11_wrong_12 rfl rfl ?_
        refine V_getR dX11_wrong_13 fl_X11_67 (by first | assumption | exact ⟨by decide, rfl⟩) (by first | assumption | rfl) ?_
        refine V_iload_n dX11_wrong_16 rfl rfl ?_
        refine V_ial dX11_wrong_17 (by first | assumption | exact ⟨by decide, rfl⟩) (show ix _ p 30 from ⟨rfl, by omega⟩) ?_
        refine V_aload_n dX11_wrong_18 rfl rfl ?_
        refine V_getR dX11_wrong_19 fl_X11_70 (by first | assumption | exact ⟨by decide, rfl⟩) (by first | assumption | rfl) ?_
        refine V_iload_n dX11_wrong_22 rfl rfl ?_
        refine V_ial dX11_wrong_23 (by first | assumption | exact ⟨by decide, rfl⟩) (show ix _ p 10 from ⟨rfl, by omega⟩) ?_
        refine V_icmp_eq_f (tgt := 29) dX11_wrong_24 (by decide) (by rw [hD.1.ow (by omega), hD.2.2.2.2 p (by omega)]; exact he) ?_
        refine V_iload_n dX11_wrong_27 rfl rfl ?_
        refine V_ireturn dX11_wrong_28 rfl rfl rfl (by decide) (by decide) ?_
        rw [wrF, if_neg he]
        exact MK.same h'
  exact key (K 0 0) 0 (by omega)
theorem mayM_tb {p i : Nat} (hi : i < K 0 1) : (mayM K p).testBit i = may K p i := by unfold mayM; rw [mk_tb]; simp [hi]
theorem mayM_lt (hB : KB K) (p : Nat) : mayM K p < 2 ^ 8 := Nat.lt_of_lt_of_le (mk_lt _ _) (Nat.pow_le_pow_right (by decide) hB.1.2.1)
theorem rop_lines (hd : 3 ≤ d) (hDB : DB D.1 D.2.1) (h : MS t len K D D1 D2 kp tl I) {p i : Int32} : Cal E d M_X11_lines [.ref 70, .int p, .int i] NC I J (RR co dr cc a1 a2) (MK t len K D D1 D2 kp tl (some (.int (a_lines K D p i))) I J (RR co dr cc a1 a2)) := by
  have h' := h
  obtain ⟨hB, hM, hR, hT, hD⟩ := h
  have hP := hB.1.1
  have hQ := hB.1.2.1
  refine Cal_of kn_X11_lines rfl (Nat.le_of_ble_eq_true rfl) ?_
  refine V_aload_n dX11_lines_0 rfl rfl (V_iload_n dX11_lines_1 rfl rfl ?_)
  refine V_cV1i (M' := M_X11_isPlayer) (d' := 2) dX11_lines_2 (Or.inl ml_X11_195) kb_X11_isPlayer (by first | assumption | exact ⟨by decide, rfl⟩) (by first | decide | omega) (by simp [Value.category]) ⟨by decide, by decide⟩ ?_
  refine mr_isPlayer hM.n0 hP ⟨_, rfl, ?_⟩
  cases hv : inR p (K 0 0)
  · refine V_if_eq_t (tgt := 16) dX11_lines_5 (by decide) (rfl) ?_
    refine V_iconst (v := (-1)) dX11_lines_16 (by decide) ?_
    refine V_ireturn dX11_lines_17 rfl rfl rfl (by decide) (by decide) ?_
    rw [a_lines, hv]; exact MK.same h'
  · obtain ⟨q1, q2⟩ := inR_cl hv (by omega)
    refine V_if_eq_f (tgt := 16) dX11_lines_5 (by decide) (by decide) ?_
    refine V_aload_n dX11_lines_8 rfl rfl (V_iload_n dX11_lines_9 rfl rfl ?_)
    refine V_cV1i (M' := M_X11_isPart) (d' := 2) dX11_lines_10 (Or.inl ml_X11_200) kb_X11_isPart (by first | assumption | exact ⟨by decide, rfl⟩) (by first | decide | omega) (by simp [Value.category]) ⟨by decide, by decide⟩ ?_
    refine mr_isPart hM.n1 hQ ⟨_, rfl, ?_⟩
    cases hv2 : inR i (K 0 1)
    · refine V_if_ne_f (tgt := 18) dX11_lines_13 (by decide) (rfl) ?_
      refine V_iconst (v := (-1)) dX11_lines_16 (by decide) ?_
      refine V_ireturn dX11_lines_17 rfl rfl rfl (by decide) (by decide) ?_
      rw [a_lines, hv, hv2]; exact MK.same h'
    · obtain ⟨q3, q4⟩ := inR_cl hv2 (by omega)
      refine V_if_ne_t (tgt := 18) dX11_lines_13 (by decide) (by decide) ?_
      refine V_aload_n dX11_lines_18 rfl rfl ?_
      refine V_getR dX11_lines_19 fl_X11_76 (by first | assumption | exact ⟨by decide, rfl⟩) (by first | assumption | rfl) ?_
      refine V_iload_n dX11_lines_22 rfl rfl ?_
      refine V_ial dX11_lines_23 (by first | assumption | exact ⟨by decide, rfl⟩) (show ix _ (cl p) 10 from ⟨q2, by omega⟩) ?_
      refine V_iload_n dX11_lines_24 rfl rfl ?_
      refine V_cS2i (M' := M_X11_has) (d' := 1) dX11_lines_25 (Or.inl ml_X11_183) kb_X11_has (by first | decide | omega) (by simp [Value.category]) ⟨by decide, by decide⟩ ?_
      rw [hR.1 _ q1, show [Value.int (nI (mayM K (cl p))), Value.int i] = [Value.int (nI (mayM K (cl p))), Value.int (nI (cl i))] by rw [← q4]]
      refine sp_mhas (lt31 (mayM_lt hB _) (by decide)) (by omega) ⟨_, rfl, ?_⟩
      rw [mayM_tb q3]
      cases hm : may K (cl p) (cl i)
      · refine V_if_eq_t (tgt := 40) dX11_lines_28 (by decide) (rfl) ?_
        refine V_bipush (v := (-2)) dX11_lines_40 (by decide) ?_
        refine V_ireturn dX11_lines_42 rfl rfl rfl (by decide) (by decide) ?_
        rw [a_lines, hv, hv2, hm]; exact MK.same h'
      · refine V_if_eq_f (tgt := 40) dX11_lines_28 (by decide) (by decide) ?_
        refine V_aload_n dX11_lines_31 rfl rfl (V_iload_n dX11_lines_32 rfl rfl (V_iload_n dX11_lines_33 rfl rfl ?_))
        refine V_cV2i (M' := M_X11_kept) (d' := 1) dX11_lines_34 (Or.inl ml_X11_205) kb_X11_kept (by first | assumption | exact ⟨by decide, rfl⟩) (by first | decide | omega) (by simp [Value.category]) ⟨by decide, by decide⟩ ?_
        rw [show [Value.ref 70, Value.int p, Value.int i] = [Value.ref 70, Value.int (nI (cl p)), Value.int (nI (cl i))] by rw [← q2, ← q4]]
        refine mr_kept hB hM hD.1 hDB (by omega) q3 ⟨_, rfl, ?_⟩
        refine V_goto (tgt := 42) dX11_lines_37 (by decide) ?_
        refine V_ireturn dX11_lines_42 rfl rfl rfl (by decide) (by decide) ?_
        rw [a_lines, hv, hv2, hm]; exact MK.same h'
theorem rop_rehearse (hd : 3 ≤ d) (h : MS t len K D D1 D2 kp tl I) {p i : Int32} : Cal E d M_X11_rehearse [.ref 70, .int p, .int i] NC I J (RR co dr cc a1 a2) (MK t len K (d_reh K D p i) D1 D2 kp tl (some (.int (a_reh K p i))) I J (RR co dr cc a1 a2)) := by
  have h' := h
  obtain ⟨hB, hM, hR, hT, hD⟩ := h
  have hP := hB.1.1
  have hQ := hB.1.2.1
  refine Cal_of kn_X11_rehearse rfl (Nat.le_of_ble_eq_true rfl) ?_
  refine V_aload_n dX11_rehearse_0 rfl rfl (V_iload_n dX11_rehearse_1 rfl rfl ?_)
  refine V_cV1i (M' := M_X11_isPlayer) (d' := 2) dX11_rehearse_2 (Or.inl ml_X11_195) kb_X11_isPlayer (by first | assumption | exact ⟨by decide, rfl⟩) (by first | decide | omega) (by simp [Value.category]) ⟨by decide, by decide⟩ ?_
  refine mr_isPlayer hM.n0 hP ⟨_, rfl, ?_⟩
  cases hv : inR p (K 0 0)
  · refine V_if_eq_t (tgt := 16) dX11_rehearse_5 (by decide) (rfl) ?_
    refine V_iconst (v := (-1)) dX11_rehearse_16 (by decide) ?_
    refine V_ireturn dX11_rehearse_17 rfl rfl rfl (by decide) (by decide) ?_
    rw [a_reh, d_reh, hv]; exact MK.same h'
  · obtain ⟨q1, q2⟩ := inR_cl hv (by omega)
    refine V_if_eq_f (tgt := 16) dX11_rehearse_5 (by decide) (by decide) ?_
    refine V_aload_n dX11_rehearse_8 rfl rfl (V_iload_n dX11_rehearse_9 rfl rfl ?_)
    refine V_cV1i (M' := M_X11_isPart) (d' := 2) dX11_rehearse_10 (Or.inl ml_X11_200) kb_X11_isPart (by first | assumption | exact ⟨by decide, rfl⟩) (by first | decide | omega) (by simp [Value.category]) ⟨by decide, by decide⟩ ?_
    refine mr_isPart hM.n1 hQ ⟨_, rfl, ?_⟩
    cases hv2 : inR i (K 0 1)
    · refine V_if_ne_f (tgt := 18) dX11_rehearse_13 (by decide) (rfl) ?_
      refine V_iconst (v := (-1)) dX11_rehearse_16 (by decide) ?_
      refine V_ireturn dX11_rehearse_17 rfl rfl rfl (by decide) (by decide) ?_
      rw [a_reh, d_reh, hv, hv2]; exact MK.same h'
    · obtain ⟨q3, q4⟩ := inR_cl hv2 (by omega)
      refine V_if_ne_t (tgt := 18) dX11_rehearse_13 (by decide) (by decide) ?_
      refine V_aload_n dX11_rehearse_18 rfl rfl ?_
      refine V_getR dX11_rehearse_19 fl_X11_76 (by first | assumption | exact ⟨by decide, rfl⟩) (by first | assumption | rfl) ?_
      refine V_iload_n dX11_rehearse_22 rfl rfl ?_
      refine V_ial dX11_rehearse_23 (by first | assumption | exact ⟨by decide, rfl⟩) (show ix _ (cl p) 10 from ⟨q2, by omega⟩) ?_
      refine V_iload_n dX11_rehearse_24 rfl rfl ?_
      refine V_cS2i (M' := M_X11_has) (d' := 1) dX11_rehearse_25 (Or.inl ml_X11_183) kb_X11_has (by first | decide | omega) (by simp [Value.category]) ⟨by decide, by decide⟩ ?_
      rw [hR.1 _ q1, show [Value.int (nI (mayM K (cl p))), Value.int i] = [Value.int (nI (mayM K (cl p))), Value.int (nI (cl i))] by rw [← q4]]
      refine sp_mhas (lt31 (mayM_lt hB _) (by decide)) (by omega) ⟨_, rfl, ?_⟩
      rw [mayM_tb q3]
      cases hm : may K (cl p) (cl i)
      · refine V_if_ne_f (tgt := 34) dX11_rehearse_28 (by decide) (rfl) ?_
        refine V_bipush (v := (-2)) dX11_rehearse_31 (by decide) ?_
        refine V_ireturn dX11_rehearse_33 rfl rfl rfl (by decide) (by decide) ?_
        rw [a_reh, d_reh, hv, hv2, hm]; exact MK.same h'
      · refine V_if_ne_t (tgt := 34) dX11_rehearse_28 (by decide) (by decide) ?_
        refine V_aload_n dX11_rehearse_34 rfl rfl ?_
        refine V_getR dX11_rehearse_35 fl_X11_61 (by first | assumption | exact ⟨by decide, rfl⟩) (by first | assumption | rfl) ?_
        refine V_bipush (v := 8) dX11_rehearse_38 (by decide) (V_iload_n dX11_rehearse_40 rfl rfl (V_imul dX11_rehearse_41 (V_iload_n dX11_rehearse_42 rfl rfl (V_iadd dX11_rehearse_43 (V_aload_n dX11_rehearse_44 rfl rfl ?_)))))
        refine V_getR dX11_rehearse_45 fl_X11_64 (by first | assumption | exact ⟨by decide, rfl⟩) (by first | assumption | rfl) ?_
        refine V_iconst (v := 0) dX11_rehearse_48 (by decide) ?_
        refine V_ial dX11_rehearse_49 (by first | assumption | exact ⟨by decide, rfl⟩) (show ix _ 0 _ from ⟨rfl, by decide⟩) ?_
        refine V_ias dX11_rehearse_50 (by first | assumption | exact ⟨by decide, rfl⟩) (show ix _ (8 * cl p + cl i) 240 from ⟨(by rw [q2, q4, cl_nI (by omega), cl_nI (by omega), show (8 : Int32) = nI 8 from rfl, pk_mul, nI_add]), by omega⟩) ?_
        refine V_aload_n dX11_rehearse_51 rfl rfl (V_iload_n dX11_rehearse_52 rfl rfl ?_)
        refine V_cV1i (M' := M_X11_hoursOf) (d' := 1) dX11_rehearse_53 (Or.inl ml_X11_244) kb_X11_hoursOf (by first | assumption | exact ⟨by decide, rfl⟩) (by first | decide | omega) (by simp [Value.category]) ⟨by decide, by decide⟩ ?_
        rw [hD.1.td, show [Value.ref 70, Value.int i] = [Value.ref 70, Value.int (nI (cl i))] by rw [← q4]]
        have hM2 : MB (up2 I 88 (8 * cl p + cl i) (nI D.1)) K := hM.all hB (fun x y a b => u2n (by omega))
        refine mr_hoursOf hB hM2 q3 ⟨_, rfl, ?_⟩
        refine V_ireturn dX11_rehearse_56 rfl rfl rfl (by decide) (by decide) ?_
        rw [a_reh, d_reh, hv, hv2, hm]
        refine ⟨rfl, rfl, rfl, ⟨hB, hM2, hR.of (fun y => u2n (by omega)) (fun y => u2n (by omega)), hT.of (fun y => u2n (by omega)) (u2n (by omega)), ⟨MDX.mk0 (by rw [u2n (by omega)]; exact hD.1.td) (fun j hj => ?_) (fun q hq => by rw [u2n (by omega)]; exact hD.1.ow hq), fun k => ?_, fun k => ?_, by rw [u2n (by omega)]; exact hD.2.2.2.1, fun q hq => by rw [u2n (by omega)]; exact hD.2.2.2.2 q hq⟩⟩, fun x y a => u2n (by omega), fun _ _ _ => rfl⟩
        · show _ = nI (if j = 8 * cl p + cl i then D.1 else D.2.1 j)
          by_cases hj2 : j = 8 * cl p + cl i
          · rw [hj2, u2e, if_pos rfl]
          · rw [u2n (Or.inr hj2), if_neg hj2]; exact hD.1.sd hj
        · obtain ⟨x1, x2, x3⟩ := hD.2.1 k
          exact ⟨by rw [u2n (by omega)]; exact x1, fun j hj => by rw [u2n (by omega)]; exact x2 j hj, fun q hq => by rw [u2n (by omega)]; exact x3 q hq⟩
        · obtain ⟨x1, x2, x3⟩ := hD.2.2.1 k
          exact ⟨by rw [u2n (by omega)]; exact x1, fun j hj => by rw [u2n (by omega)]; exact x2 j hj, fun q hq => by rw [u2n (by omega)]; exact x3 q hq⟩
theorem rop_rest (hd : 2 ≤ d) (h : MS t len K D D1 D2 kp tl I) {x : Int32} : Cal E d M_X11_rest [.ref 70, .int x] NC I J (RR co dr cc a1 a2) (MK t len K (rsD D x) D1 D2 kp tl (some (.int (a_rest D x))) I J (RR co dr cc a1 a2)) := by
  have h' := h
  obtain ⟨hB, hM, hR, hT, hD⟩ := h
  refine Cal_of kn_X11_rest rfl (Nat.le_of_ble_eq_true rfl) ?_
  refine V_iload_n dX11_rest_0 rfl rfl (V_i2l dX11_rest_1 (V_lconst (v := 1) dX11_rest_2 rfl (V_ldc2_w dX11_rest_3 ct_X11_151 ?_)))
  refine V_cS3i (M' := M_X11_in) (d' := 1) dX11_rest_6 (Or.inl ml_X11_124) kb_X11_in (by first | decide | omega) (by simp [Value.category]) ⟨by decide, by decide⟩ ?_
  refine mr_in ⟨_, rfl, ?_⟩
  have e9 : decide ((1 : Int64).toInt ≤ x.toInt64.toInt ∧ x.toInt64.toInt ≤ (99 : Int64).toInt) = rsI x := in_C (u := 1) (v := 99) (by decide) (by decide)
  rw [e9]
  cases hv : rsI x
  · refine V_if_ne_f (tgt := 14) dX11_rest_9 (by decide) (rfl) ?_
    refine V_iconst (v := (-1)) dX11_rest_12 (by decide) ?_
    refine V_ireturn dX11_rest_13 rfl rfl rfl (by decide) (by decide) ?_
    rw [a_rest, rsD, hv]; exact MK.same h'
  · obtain ⟨q1, q2, q3⟩ := rsI_cl hv
    refine V_if_ne_t (tgt := 14) dX11_rest_9 (by decide) (by decide) ?_
    refine V_aload_n dX11_rest_14 rfl rfl ?_
    refine V_getR dX11_rest_15 fl_X11_64 (by first | assumption | exact ⟨by decide, rfl⟩) (by first | assumption | rfl) ?_
    refine V_iconst (v := 0) dX11_rest_18 (by decide) (V_dup2 dX11_rest_19 rfl rfl ?_)
    refine V_ial dX11_rest_20 (by first | assumption | exact ⟨by decide, rfl⟩) (show ix _ 0 _ from ⟨rfl, by decide⟩) ?_
    refine V_iload_n dX11_rest_21 rfl rfl (V_iadd dX11_rest_22 ?_)
    refine V_ias dX11_rest_23 (by first | assumption | exact ⟨by decide, rfl⟩) (show ix _ 0 _ from ⟨rfl, by decide⟩) ?_
    refine V_aload_n dX11_rest_24 rfl rfl ?_
    refine V_getR dX11_rest_25 fl_X11_64 (by first | assumption | exact ⟨by decide, rfl⟩) (by first | assumption | rfl) ?_
    refine V_iconst (v := 0) dX11_rest_28 (by decide) ?_
    refine V_ial dX11_rest_29 (by first | assumption | exact ⟨by decide, rfl⟩) (show ix _ 0 _ from ⟨rfl, by decide⟩) ?_
    refine V_ireturn dX11_rest_30 rfl rfl rfl (by decide) (by decide) ?_
    rw [a_rest, rsD, hv, u2e, hD.1.td]
    have e5 : nI D.1 + x = nI (D.1 + cl x) := by rw [← nI_add, ← q3]
    rw [e5]
    refine ⟨rfl, rfl, rfl, ⟨hB, hM.all hB (fun x y a b => u2n (by omega)), hR.of (fun y => u2n (by omega)) (fun y => u2n (by omega)), hT.of (fun y => u2n (by omega)) (u2n (by omega)), ⟨MDX.mk0 u2e (fun j hj => by rw [u2n (by omega)]; exact hD.1.sd hj) (fun q hq => by rw [u2n (by omega)]; exact hD.1.ow hq), fun k => ?_, fun k => ?_, by rw [u2n (by omega)]; exact hD.2.2.2.1, fun q hq => by rw [u2n (by omega)]; exact hD.2.2.2.2 q hq⟩⟩, fun x y a => u2n (by omega), fun _ _ _ => rfl⟩
    · obtain ⟨x1, x2, x3⟩ := hD.2.1 k
      exact ⟨by rw [u2n (by omega)]; exact x1, fun j hj => by rw [u2n (by omega)]; exact x2 j hj, fun q hq => by rw [u2n (by omega)]; exact x3 q hq⟩
    · obtain ⟨x1, x2, x3⟩ := hD.2.2.1 k
      exact ⟨by rw [u2n (by omega)]; exact x1, fun j hj => by rw [u2n (by omega)]; exact x2 j hj, fun q hq => by rw [u2n (by omega)]; exact x3 q hq⟩
theorem rop_count (h : MS t len K D D1 D2 kp tl I) {x : Int32} : Cal E d M_X11_count [.ref 70, .int x] NC I J (RR co dr cc a1 a2) (MK t len K D D1 D2 kp tl (some (.int (a_count len K D kp x))) I J (RR co dr cc a1 a2)) := by
  have h' := h
  obtain ⟨hB, hM, hR, hT, hD⟩ := h
  refine Cal_of kn_X11_count rfl (Nat.le_of_ble_eq_true rfl) ?_
  refine V_iload_n dX11_count_0 rfl rfl ?_
  by_cases hin : 0 ≤ x.toInt ∧ x.toInt ≤ 6
  · rcases (show x.toInt = 0 ∨ x.toInt = 1 ∨ x.toInt = 2 ∨ x.toInt = 3 ∨ x.toInt = 4 ∨ x.toInt = 5 ∨ x.toInt = 6 by omega) with z | z | z | z | z | z | z
    · obtain rfl := to_lit 0 z (by decide)
      refine V_tableIn (off := 43) (tgt := 44) dX11_count_1 (by decide) (by decide) (by decide) (by decide) ?_
      refine V_aload_n dX11_count_44 rfl rfl ?_
      refine V_getR dX11_count_45 fl_X11_13 (by first | assumption | exact ⟨by decide, rfl⟩) (by first | assumption | rfl) ?_
      refine V_iconst (v := 0) dX11_count_48 (by decide) ?_
      refine V_ial dX11_count_49 (by first | assumption | exact ⟨by decide, rfl⟩) (show ix _ 0 _ from ⟨rfl, by decide⟩) ?_
      refine V_ireturn dX11_count_50 rfl rfl rfl (by decide) (by decide) ?_
      rw [hM.n0]; exact MK.same h'
    · obtain rfl := to_lit 1 z (by decide)
      refine V_tableIn (off := 50) (tgt := 51) dX11_count_1 (by decide) (by decide) (by decide) (by decide) ?_
      refine V_aload_n dX11_count_51 rfl rfl ?_
      refine V_getR dX11_count_52 fl_X11_22 (by first | assumption | exact ⟨by decide, rfl⟩) (by first | assumption | rfl) ?_
      refine V_iconst (v := 0) dX11_count_55 (by decide) ?_
      refine V_ial dX11_count_56 (by first | assumption | exact ⟨by decide, rfl⟩) (show ix _ 0 _ from ⟨rfl, by decide⟩) ?_
      refine V_ireturn dX11_count_57 rfl rfl rfl (by decide) (by decide) ?_
      rw [hM.n1]; exact MK.same h'
    · obtain rfl := to_lit 2 z (by decide)
      refine V_tableIn (off := 57) (tgt := 58) dX11_count_1 (by decide) (by decide) (by decide) (by decide) ?_
      refine V_aload_n dX11_count_58 rfl rfl ?_
      refine V_getR dX11_count_59 fl_X11_40 (by first | assumption | exact ⟨by decide, rfl⟩) (by first | assumption | rfl) ?_
      refine V_iconst (v := 0) dX11_count_62 (by decide) ?_
      refine V_ial dX11_count_63 (by first | assumption | exact ⟨by decide, rfl⟩) (show ix _ 0 _ from ⟨rfl, by decide⟩) ?_
      refine V_ireturn dX11_count_64 rfl rfl rfl (by decide) (by decide) ?_
      rw [hM.n2]; exact MK.same h'
    · obtain rfl := to_lit 3 z (by decide)
      refine V_tableIn (off := 64) (tgt := 65) dX11_count_1 (by decide) (by decide) (by decide) (by decide) ?_
      refine V_aload_n dX11_count_65 rfl rfl ?_
      refine V_getI dX11_count_66 fl_X11_128 (by first | assumption | exact ⟨by decide, rfl⟩) ?_
      refine V_ireturn dX11_count_69 rfl rfl rfl (by decide) (by decide) ?_
      rw [hT.2.1]; exact MK.same h'
    · obtain rfl := to_lit 4 z (by decide)
      refine V_tableIn (off := 69) (tgt := 70) dX11_count_1 (by decide) (by decide) (by decide) (by decide) ?_
      refine V_aload_n dX11_count_70 rfl rfl ?_
      refine V_getR dX11_count_71 fl_X11_64 (by first | assumption | exact ⟨by decide, rfl⟩) (by first | assumption | rfl) ?_
      refine V_iconst (v := 0) dX11_count_74 (by decide) ?_
      refine V_ial dX11_count_75 (by first | assumption | exact ⟨by decide, rfl⟩) (show ix _ 0 _ from ⟨rfl, by decide⟩) ?_
      refine V_ireturn dX11_count_76 rfl rfl rfl (by decide) (by decide) ?_
      rw [hD.1.td]; exact MK.same h'
    · obtain rfl := to_lit 5 z (by decide)
      refine V_tableIn (off := 76) (tgt := 77) dX11_count_1 (by decide) (by decide) (by decide) (by decide) ?_
      refine V_aload_n dX11_count_77 rfl rfl ?_
      refine V_getI dX11_count_78 fl_X11_180 (by first | assumption | exact ⟨by decide, rfl⟩) ?_
      refine V_ireturn dX11_count_81 rfl rfl rfl (by decide) (by decide) ?_
      rw [hD.2.2.2.1]; exact MK.same h'
    · obtain rfl := to_lit 6 z (by decide)
      refine V_tableIn (off := 81) (tgt := 82) dX11_count_1 (by decide) (by decide) (by decide) (by decide) ?_
      refine V_aload_n dX11_count_82 rfl rfl ?_
      refine V_getR dX11_count_83 fl_X11_49 (by first | assumption | exact ⟨by decide, rfl⟩) (by first | assumption | rfl) ?_
      refine V_iconst (v := 0) dX11_count_86 (by decide) ?_
      refine V_ial dX11_count_87 (by first | assumption | exact ⟨by decide, rfl⟩) (show ix _ 0 _ from ⟨rfl, by decide⟩) ?_
      refine V_ireturn dX11_count_88 rfl rfl rfl (by decide) (by decide) ?_
      rw [hM.n3]; exact MK.same h'
  · have ne : ∀ w : Int32, 0 ≤ w.toInt → w.toInt ≤ 6 → ¬ x = w := fun w a b z => hin (by rw [z]; exact ⟨a, b⟩)
    refine V_tableOut (tgt := 89) dX11_count_1 (by omega) (by decide) ?_
    refine V_iconst (v := (-1)) dX11_count_89 (by decide) ?_
    refine V_ireturn dX11_count_90 rfl rfl rfl (by decide) (by decide) ?_
    rw [a_count, if_neg (ne _ (by decide) (by decide)), if_neg (ne _ (by decide) (by decide)), if_neg (ne _ (by decide) (by decide)), if_neg (ne _ (by decide) (by decide)), if_neg (ne _ (by decide) (by decide)), if_neg (ne _ (by decide) (by decide)), if_neg (ne _ (by decide) (by decide))]
    exact MK.same h'
theorem mr_copy {a b : Nat} (ha : a ≤ 2) (hb : b ≤ 2) (hab : a ≠ b) (hD : MDX I a D) (Kk : ∀ I', MDX I' b D → (∀ x y, x ≠ 88 → x ≠ 89 → x ≠ 90 → I' x y = I x y) → (∀ c, c ≤ 2 → c ≠ b → ∀ D', MDX I c D' → MDX I' c D') → Post none NC I' J (RR co dr cc a1 a2)) : Cal E d M_X11_copy [.ref 70, .int (nI a), .int (nI b)] NC I J (RR co dr cc a1 a2) Post := by
  refine Cal_of kn_X11_copy rfl (Nat.le_of_ble_eq_true rfl) ?_
  refine V_iconst (v := 0) dX11_copy_0 (by decide) (V_istore_3 dX11_copy_1 (by decide) rfl ?_)
  have key1 : ∀ k, k ≤ 80 → ∀ I1, (∀ x y, I1 x y = if x = 88 ∧ 80 * b ≤ y ∧ y < 80 * b + k then I 88 (80 * a + (y - 80 * b)) else I x y) → V E d M_X11_copy Post 2 [some (.ref 70), some (.int (nI a)), some (.int (nI b)), some (.int (nI k))] [] NC 0 0 I1 J (RR co dr cc a1 a2) := by
    refine loop_up 80 ?_ ?_
    · intro I1 h1
      refine V_iload_n dX11_copy_2 rfl rfl (V_bipush (v := 80) dX11_copy_3 (by decide) ?_)
      refine V_icmp_ge_t (tgt := 36) dX11_copy_5 (by decide) (nI_le (a := 80) (b := 80) (by decide) (by decide)) ?_
      refine V_iconst (v := 0) dX11_copy_36 (by decide) (V_istore_3 dX11_copy_37 (by decide) rfl ?_)
      have key2 : ∀ k, k ≤ 10 → ∀ I2, (∀ x y, I2 x y = if x = 90 ∧ 10 * b ≤ y ∧ y < 10 * b + k then I 90 (10 * a + (y - 10 * b)) else I1 x y) → V E d M_X11_copy Post 38 [some (.ref 70), some (.int (nI a)), some (.int (nI b)), some (.int (nI k))] [] NC 0 0 I2 J (RR co dr cc a1 a2) := by
        refine loop_up 10 ?_ ?_
        · intro I2 h2
          refine V_iload_n dX11_copy_38 rfl rfl (V_bipush (v := 10) dX11_copy_39 (by decide) ?_)
          refine V_icmp_ge_t (tgt := 72) dX11_copy_41 (by decide) (nI_le (a := 10) (b := 10) (by decide) (by decide)) ?_
          refine V_aload_n dX11_copy_72 rfl rfl ?_
          refine V_getR dX11_copy_73 fl_X11_64 (by first | assumption | exact ⟨by decide, rfl⟩) (by first | assumption | rfl) ?_
          refine V_iload_n dX11_copy_76 rfl rfl (V_aload_n dX11_copy_77 rfl rfl ?_)
          refine V_getR dX11_copy_78 fl_X11_64 (by first | assumption | exact ⟨by decide, rfl⟩) (by first | assumption | rfl) ?_
          refine V_iload_n dX11_copy_81 rfl rfl ?_
          refine V_ial dX11_copy_82 (by first | assumption | exact ⟨by decide, rfl⟩) (show ix _ a 3 from ⟨rfl, by omega⟩) ?_
          refine V_ias dX11_copy_83 (by first | assumption | exact ⟨by decide, rfl⟩) (show ix _ b 3 from ⟨rfl, by omega⟩) ?_
          refine V_return dX11_copy_84 rfl rfl (by decide) (by decide) ?_
          have g89 : I2 89 a = nI D.1 := by rw [h2, if_neg (by omega), h1, if_neg (by omega)]; exact hD.1
          refine Kk _ ⟨by rw [u2e]; exact g89, fun j hj => ?_, fun p hp => ?_⟩ (fun x y x1 x2 x3 => by rw [u2n (by omega), h2, if_neg (by omega), h1, if_neg (by omega)]) (fun c hc hcb D' hD' => ⟨?_, fun j hj => ?_, fun p hp => ?_⟩)
          · rw [u2n (by omega), h2, if_neg (by omega), h1, if_pos ⟨rfl, by omega, by omega⟩, show 80 * b + j - 80 * b = j by omega]; exact hD.2.1 j hj
          · rw [u2n (by omega), h2, if_pos ⟨rfl, by omega, by omega⟩, show 10 * b + p - 10 * b = p by omega]; exact hD.2.2 p hp
          · rw [u2n (by omega), h2, if_neg (by omega), h1, if_neg (by omega)]; exact hD'.1
          · rw [u2n (by omega), h2, if_neg (by omega), h1, if_neg (by omega)]; exact hD'.2.1 j hj
          · rw [u2n (by omega), h2, if_neg (by omega), h1, if_neg (by omega)]; exact hD'.2.2 p hp
        · intro k hk ih I2 h2
          refine V_iload_n dX11_copy_38 rfl rfl (V_bipush (v := 10) dX11_copy_39 (by decide) ?_)
          refine V_icmp_ge_f (tgt := 72) dX11_copy_41 (by decide) (nI_ge (b := 10) hk (by decide)) ?_
          refine V_aload_n dX11_copy_44 rfl rfl ?_
          refine V_getR dX11_copy_45 fl_X11_67 (by first | assumption | exact ⟨by decide, rfl⟩) (by first | assumption | rfl) ?_
          refine V_bipush (v := 10) dX11_copy_48 (by decide) (V_iload_n dX11_copy_50 rfl rfl (V_imul dX11_copy_51 (V_iload_n dX11_copy_52 rfl rfl (V_iadd dX11_copy_53 (V_aload_n dX11_copy_54 rfl rfl ?_)))))
          refine V_getR dX11_copy_55 fl_X11_67 (by first | assumption | exact ⟨by decide, rfl⟩) (by first | assumption | rfl) ?_
          refine V_bipush (v := 10) dX11_copy_58 (by decide) (V_iload_n dX11_copy_60 rfl rfl (V_imul dX11_copy_61 (V_iload_n dX11_copy_62 rfl rfl (V_iadd dX11_copy_63 ?_))))
          refine V_ial dX11_copy_64 (by first | assumption | exact ⟨by decide, rfl⟩) (show ix _ (10 * a + k) 30 from ixm (c := 10) (by omega)) ?_
          refine V_ias dX11_copy_65 (by first | assumption | exact ⟨by decide, rfl⟩) (show ix _ (10 * b + k) 30 from ixm (c := 10) (by omega)) ?_
          refine V_iinc_3 (w := 1) dX11_copy_66 (by decide) (by decide) rfl (V_goto (tgt := 38) dX11_copy_69 (by decide) ?_)
          rw [nI_1]
          refine ih _ (fun x y => ?_)
          by_cases hx : x = 90 ∧ y = 10 * b + k
          · rw [hx.1, hx.2, u2e, if_pos ⟨rfl, by omega, by omega⟩, h2, if_neg (by omega), h1, if_neg (by omega), show 10 * b + k - 10 * b = k by omega]
          · rw [u2n (by omega), h2]
            by_cases hx2 : x = 90 ∧ 10 * b ≤ y ∧ y < 10 * b + k
            · rw [if_pos hx2, if_pos ⟨hx2.1, hx2.2.1, by omega⟩]
            · rw [if_neg hx2, if_neg (by omega)]
      exact key2 0 (by omega) I1 (fun x y => by rw [if_neg (by omega)])
    · intro k hk ih I1 h1
      refine V_iload_n dX11_copy_2 rfl rfl (V_bipush (v := 80) dX11_copy_3 (by decide) ?_)
      refine V_icmp_ge_f (tgt := 36) dX11_copy_5 (by decide) (nI_ge (b := 80) hk (by decide)) ?_
      refine V_aload_n dX11_copy_8 rfl rfl ?_
      refine V_getR dX11_copy_9 fl_X11_61 (by first | assumption | exact ⟨by decide, rfl⟩) (by first | assumption | rfl) ?_
      refine V_bipush (v := 80) dX11_copy_12 (by decide) (V_iload_n dX11_copy_14 rfl rfl (V_imul dX11_copy_15 (V_iload_n dX11_copy_16 rfl rfl (V_iadd dX11_copy_17 (V_aload_n dX11_copy_18 rfl rfl ?_)))))
      refine V_getR dX11_copy_19 fl_X11_61 (by first | assumption | exact ⟨by decide, rfl⟩) (by first | assumption | rfl) ?_
      refine V_bipush (v := 80) dX11_copy_22 (by decide) (V_iload_n dX11_copy_24 rfl rfl (V_imul dX11_copy_25 (V_iload_n dX11_copy_26 rfl rfl (V_iadd dX11_copy_27 ?_))))
      refine V_ial dX11_copy_28 (by first | assumption | exact ⟨by decide, rfl⟩) (show ix _ (80 * a + k) 240 from ixm (c := 80) (by omega)) ?_
      refine V_ias dX11_copy_29 (by first | assumption | exact ⟨by decide, rfl⟩) (show ix _ (80 * b + k) 240 from ixm (c := 80) (by omega)) ?_
      refine V_iinc_3 (w := 1) dX11_copy_30 (by decide) (by decide) rfl (V_goto (tgt := 2) dX11_copy_33 (by decide) ?_)
      rw [nI_1]
      refine ih _ (fun x y => ?_)
      by_cases hx : x = 88 ∧ y = 80 * b + k
      · rw [hx.1, hx.2, u2e, if_pos ⟨rfl, by omega, by omega⟩, h1, if_neg (by omega), show 80 * b + k - 80 * b = k by omega]
      · rw [u2n (by omega), h1]
        by_cases hx2 : x = 88 ∧ 80 * b ≤ y ∧ y < 80 * b + k
        · rw [if_pos hx2, if_pos ⟨hx2.1, hx2.2.1, by omega⟩]
        · rw [if_neg hx2, if_neg (by omega)]
  exact key1 0 (by omega) I (fun x y => by rw [if_neg (by omega)])
theorem rop_keep (hd : 2 ≤ d) (hk : kp ≤ 2) (h : MS t len K D D1 D2 kp tl I) : Cal E d M_X11_keep [.ref 70] NC I J (RR co dr cc a1 a2) (MK t len K D (kpD1 D D1 kp) (kpD2 D D2 kp) (kpN kp) tl (some (.int (a_keep kp))) I J (RR co dr cc a1 a2)) := by
  have h' := h
  obtain ⟨hB, hM, hR, hT, hD⟩ := h
  refine Cal_of kn_X11_keep rfl (Nat.le_of_ble_eq_true rfl) ?_
  by_cases h2 : kp = 2
  · subst h2
    refine V_aload_n dX11_keep_0 rfl rfl ?_
    refine V_getI dX11_keep_1 fl_X11_180 (by first | assumption | exact ⟨by decide, rfl⟩) ?_
    refine V_iconst (v := 2) dX11_keep_4 (by decide) ?_
    refine V_icmp_ne_f (tgt := 11) dX11_keep_5 (by decide) (by rw [hD.2.2.2.1]; rfl) ?_
    refine V_bipush (v := (-3)) dX11_keep_8 (by decide) ?_
    refine V_ireturn dX11_keep_10 rfl rfl rfl (by decide) (by decide) ?_
    exact MK.same h'
  · refine V_aload_n dX11_keep_0 rfl rfl ?_
    refine V_getI dX11_keep_1 fl_X11_180 (by first | assumption | exact ⟨by decide, rfl⟩) ?_
    refine V_iconst (v := 2) dX11_keep_4 (by decide) ?_
    refine V_icmp_ne_t (tgt := 11) dX11_keep_5 (by decide) (by rw [hD.2.2.2.1, show (2 : Int32) = nI 2 from rfl]; exact fun z => h2 ((nI_eq (by omega) (by omega)).mp z)) ?_
    refine V_aload_n dX11_keep_11 rfl rfl (V_dup dX11_keep_12 rfl ?_)
    refine V_getI dX11_keep_13 fl_X11_180 (by first | assumption | exact ⟨by decide, rfl⟩) ?_
    refine V_iconst (v := 1) dX11_keep_16 (by decide) (V_iadd dX11_keep_17 ?_)
    refine V_putI dX11_keep_18 fl_X11_180 (by first | assumption | exact ⟨by decide, rfl⟩) ?_
    refine V_aload_n dX11_keep_21 rfl rfl (V_iconst (v := 0) dX11_keep_22 (by decide) (V_aload_n dX11_keep_23 rfl rfl ?_))
    refine V_getI dX11_keep_24 fl_X11_180 (by first | assumption | exact ⟨by decide, rfl⟩) ?_
    refine V_cV2v (M' := M_X11_copy) (d' := 1) dX11_keep_27 (Or.inl ml_X11_312) kb_X11_copy (by first | assumption | exact ⟨by decide, rfl⟩) (by first | decide | omega) (by simp [Value.category]) ⟨by decide, by decide⟩ ?_
    rw [u2e, hD.2.2.2.1, nI_1]
    refine mr_copy (a := 0) (b := kp + 1) (D := D) (by omega) (by omega) (by omega) (hD.1.of (fun x y a b => u2n (by omega))) (fun I1 g1 g2 g3 => ⟨rfl, ?_⟩)
    refine V_aload_n dX11_keep_30 rfl rfl ?_
    refine V_getI dX11_keep_31 fl_X11_180 (by first | assumption | exact ⟨by decide, rfl⟩) ?_
    refine V_ireturn dX11_keep_34 rfl rfl rfl (by decide) (by decide) ?_
    have e0 : I1 70 22 = nI (kp + 1) := by rw [g2 _ _ (by omega) (by omega) (by omega), u2e]
    have eN : kpN kp = kp + 1 := by unfold kpN; rw [if_pos (by omega)]
    have g3' : ∀ c, c ≤ 2 → c ≠ kp + 1 → ∀ D', MDX I c D' → MDX I1 c D' := fun c hc hcb D' hD' => g3 c hc hcb D' (hD'.of (fun x y a b => u2n (by omega)))
    rw [e0, show a_keep kp = nI (kp + 1) by unfold a_keep; rw [if_pos (by omega)]]
    refine ⟨rfl, rfl, rfl, ⟨hB, hM.all hB (fun x y a b => by rw [g2 _ _ (by omega) (by omega) (by omega), u2n (by omega)]), hR.of (fun y => by rw [g2 _ _ (by omega) (by omega) (by omega), u2n (by omega)]) (fun y => by rw [g2 _ _ (by omega) (by omega) (by omega), u2n (by omega)]), hT.of (fun y => by rw [g2 _ _ (by omega) (by omega) (by omega), u2n (by omega)]) (by rw [g2 _ _ (by omega) (by omega) (by omega), u2n (by omega)]), ⟨g3' 0 (by omega) (by omega) D hD.1, fun _ => ?_, fun z => ?_, by rw [eN]; exact e0, fun q hq => by rw [g2 _ _ (by omega) (by omega) (by omega), u2n (by omega)]; exact hD.2.2.2.2 q hq⟩⟩, fun x y a => by rw [g2 _ _ (by omega) (by omega) (by omega), u2n (by omega)], fun _ _ _ => rfl⟩
    · unfold kpD1
      by_cases hz : kp = 0
      · rw [if_pos hz]; subst hz; exact g1
      · rw [if_neg hz]; exact g3' 1 (by omega) (by omega) D1 (hD.2.1 (by omega))
    · rw [eN] at z
      obtain rfl : kp = 1 := by omega
      exact g1
theorem rop_back (hd : 2 ≤ d) (hk : kp ≤ 2) (h : MS t len K D D1 D2 kp tl I) : Cal E d M_X11_back [.ref 70] NC I J (RR co dr cc a1 a2) (MK t len K (bkD D D1 D2 kp) D1 D2 (kp - 1) tl (some (.int (a_back kp))) I J (RR co dr cc a1 a2)) := by
  have h' := h
  obtain ⟨hB, hM, hR, hT, hD⟩ := h
  refine Cal_of kn_X11_back rfl (Nat.le_of_ble_eq_true rfl) ?_
  by_cases h2 : kp = 0
  · subst h2
    refine V_aload_n dX11_back_0 rfl rfl ?_
    refine V_getI dX11_back_1 fl_X11_180 (by first | assumption | exact ⟨by decide, rfl⟩) ?_
    refine V_if_ne_f (tgt := 10) dX11_back_4 (by decide) (by rw [hD.2.2.2.1]; rfl) ?_
    refine V_bipush (v := (-2)) dX11_back_7 (by decide) ?_
    refine V_ireturn dX11_back_9 rfl rfl rfl (by decide) (by decide) ?_
    exact MK.same h'
  · refine V_aload_n dX11_back_0 rfl rfl ?_
    refine V_getI dX11_back_1 fl_X11_180 (by first | assumption | exact ⟨by decide, rfl⟩) ?_
    refine V_if_ne_t (tgt := 10) dX11_back_4 (by decide) (by rw [hD.2.2.2.1, ← nI_0]; exact fun z => h2 ((nI_eq (by omega) (by omega)).mp z)) ?_
    refine V_aload_n dX11_back_10 rfl rfl (V_aload_n dX11_back_11 rfl rfl ?_)
    refine V_getI dX11_back_12 fl_X11_180 (by first | assumption | exact ⟨by decide, rfl⟩) ?_
    refine V_iconst (v := 0) dX11_back_15 (by decide) ?_
    refine V_cV2v (M' := M_X11_copy) (d' := 1) dX11_back_16 (Or.inl ml_X11_312) kb_X11_copy (by first | assumption | exact ⟨by decide, rfl⟩) (by first | decide | omega) (by simp [Value.category]) ⟨by decide, by decide⟩ ?_
    rw [hD.2.2.2.1]
    have hsrc : MDX I kp (bkD D D1 D2 kp) := by
      unfold bkD
      rw [if_neg h2]
      by_cases hz : kp = 1
      · rw [if_pos hz]; subst hz; exact hD.2.1 (by omega)
      · rw [if_neg hz]; obtain rfl : kp = 2 := by omega
        exact hD.2.2.1 (by omega)
    refine mr_copy (a := kp) (b := 0) (by omega) (by omega) (by omega) hsrc (fun I1 g1 g2 g3 => ⟨rfl, ?_⟩)
    refine V_aload_n dX11_back_19 rfl rfl (V_dup dX11_back_20 rfl ?_)
    refine V_getI dX11_back_21 fl_X11_180 (by first | assumption | exact ⟨by decide, rfl⟩) ?_
    refine V_iconst (v := 1) dX11_back_24 (by decide) (V_isub dX11_back_25 ?_)
    refine V_putI dX11_back_26 fl_X11_180 (by first | assumption | exact ⟨by decide, rfl⟩) ?_
    refine V_aload_n dX11_back_29 rfl rfl ?_
    refine V_getI dX11_back_30 fl_X11_180 (by first | assumption | exact ⟨by decide, rfl⟩) ?_
    refine V_ireturn dX11_back_33 rfl rfl rfl (by decide) (by decide) ?_
    have e0 : I1 70 22 - 1 = nI (kp - 1) := by rw [g2 _ _ (by omega) (by omega) (by omega), hD.2.2.2.1, show (1 : Int32) = nI 1 from rfl, pk_sub (by omega)]
    rw [u2e, e0, show a_back kp = nI (kp - 1) by unfold a_back; rw [if_neg h2]]
    have g4 : ∀ x y, x ≠ 70 → x ≠ 88 → x ≠ 89 → x ≠ 90 → up2 I1 70 22 (nI (kp - 1)) x y = I x y := fun x y p1 p2 p3 p4 => by rw [u2n (by omega), g2 _ _ p2 p3 p4]
    refine ⟨rfl, rfl, rfl, ⟨hB, hM.all hB (fun x y a b => g4 _ _ (by omega) (by omega) (by omega) (by omega)), hR.of (fun y => g4 _ _ (by omega) (by omega) (by omega) (by omega)) (fun y => g4 _ _ (by omega) (by omega) (by omega) (by omega)), hT.of (fun y => g4 _ _ (by omega) (by omega) (by omega) (by omega)) (by rw [u2n (by omega), g2 _ _ (by omega) (by omega) (by omega)]), ⟨g1.of (fun x y a b => u2n (by omega)), fun z => (g3 1 (by omega) (by omega) D1 (hD.2.1 (by omega))).of (fun x y a b => u2n (by omega)), fun z => (g3 2 (by omega) (by omega) D2 (hD.2.2.1 (by omega))).of (fun x y a b => u2n (by omega)), u2e, fun q hq => by rw [g4 _ _ (by omega) (by omega) (by omega) (by omega)]; exact hD.2.2.2.2 q hq⟩⟩, fun x y a => g4 _ _ (by omega) (by omega) (by omega) (by omega), fun _ _ _ => rfl⟩
end
