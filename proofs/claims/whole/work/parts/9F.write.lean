/-! write, on both sides -/
def byt (v : Int64) (l : Nat) : Nat := v.toBitVec.toNat / 2 ^ (8 * l) % 256
theorem byt_lt (v : Int64) (l : Nat) : byt v l < 256 := Nat.mod_lt _ (by decide)
theorem lN_self (v : Int64) : lN v.toBitVec.toNat = v := Int64.toBitVec_inj.mp (by show BitVec.ofNat 64 v.toBitVec.toNat = v.toBitVec; exact BitVec.ofNat_toNat 64 v.toBitVec ▸ by simp)
theorem s8_u : ∀ l, l < 8 → (((8 : Int32) * nI l).toInt64.toUInt64 &&& Int64.toUInt64 63) = UInt64.ofNat (8 * l) := by decide +kernel
theorem s8_s : ∀ l, l < 8 → ((((8 : Int32) * nI l).toInt64 &&& 63).toBitVec.smod 64).toNat = 8 * l := by decide +kernel
theorem byte_c (v : Int64) {l : Nat} (hl : l < 8) : ((luS v ((8 : Int32) * nI l)).toInt32).toInt8.toInt32 = sg (byt v l) := by
  have h1 : luS v ((8 : Int32) * nI l) = lN (v.toBitVec.toNat / 2 ^ (8 * l)) := by
    have := luS_lN (n := v.toBitVec.toNat) (k := 8 * l) v.toBitVec.isLt (by omega) (s8_u l hl)
    rwa [lN_self] at this
  rw [h1, lN_i]
  unfold sg byt
  have h2 : nI (v.toBitVec.toNat / 2 ^ (8 * l)) &&& 255 = nI (v.toBitVec.toNat / 2 ^ (8 * l) % 256) := fa_mask _ 8
  rw [← h2, fa_byte_low]
theorem btL_255 : ∀ i, i < 64 → btL 255 i = decide (i < 8) := by decide +kernel
theorem byte_m (v : Int64) {l : Nat} (hl : l < 8) : ((v >>> (((8 : Int32) * nI l).toInt64 &&& 63)) &&& 255).toInt32 = nI (byt v l) := by
  have h1 : (v >>> (((8 : Int32) * nI l).toInt64 &&& 63)) &&& 255 = lN (byt v l) := by
    refine bL_ext (fun i hi => ?_)
    have e : btL ((v >>> (((8 : Int32) * nI l).toInt64 &&& 63)) &&& 255) i = (btL (v >>> (((8 : Int32) * nI l).toInt64 &&& 63)) i && btL 255 i) := by
      unfold btL; rw [Int64.toBitVec_and, BitVec.getLsbD_and]
    rw [e, btL_255 i hi, btL_lN _ hi]
    unfold byt
    rw [show (256 : Nat) = 2 ^ 8 from rfl, Nat.testBit_mod_two_pow, ← Nat.shiftRight_eq_div_pow, Nat.testBit_shiftRight]
    by_cases h8 : i < 8
    · have : btL (v >>> (((8 : Int32) * nI l).toInt64 &&& 63)) i = v.toBitVec.toNat.testBit (8 * l + i) := by
        unfold btL
        rw [Int64.toBitVec_shiftRight]
        unfold BitVec.sshiftRight'
        rw [s8_s l hl, BitVec.getLsbD_sshiftRight, if_pos (by omega)]
        simp [BitVec.getLsbD]
        omega
      rw [this]; simp [h8]
    · simp [h8]
  rw [h1, lN_i]
def wrI (n : Int32) : Bool := decide (1 ≤ n.toInt ∧ n.toInt ≤ 8)
theorem wrI_cl {x : Int32} (h : wrI x = true) : (1 ≤ cl x ∧ cl x ≤ 8) ∧ x = nI (cl x) := by
  have hx := of_decide_eq_true h
  obtain ⟨h1, h2⟩ := inR_cl (x := x) (n := 9) (decide_eq_true ⟨by omega, by omega⟩) (by omega)
  have h3 := hx.1
  rw [h2, nI_toInt (by omega)] at h3
  exact ⟨⟨by omega, by omega⟩, h2⟩
def wrOk (len : Nat) (n : Int32) : Bool := wrI n && decide (len + cl n ≤ 400)
def wrT (t : Nat → Nat) (len : Nat) (n : Int32) (v : Int64) : Nat → Nat := if wrOk len n then (fun j => if len ≤ j ∧ j < len + cl n then byt v (cl n - 1 - (j - len)) else t j) else t
def wrN (len : Nat) (n : Int32) : Nat := if wrOk len n then len + cl n else len
def a_write (len : Nat) (n : Int32) : Int32 := if wrI n then (if len + cl n ≤ 400 then nI (len + cl n) else -3) else -1
theorem wrT_lt {t : Nat → Nat} {len : Nat} {n : Int32} {v : Int64} (h : ∀ j, t j < 256) (j : Nat) : wrT t len n v j < 256 := by
  unfold wrT
  split
  · show (if _ then _ else _) < 256
    split
    · exact byt_lt _ _
    · exact h j
  · exact h j
section
variable {E : En} {I : TI} {J : TJ} {R : TR} {co dr : Nat} {cc a1 a2 : Option Nat} {t : Nat → Nat} {len : Nat} {K : KT} {D D1 D2 : Di} {kp : Nat} {tl : Nat → Int32} {d : Nat}
theorem op_write (h : CS t len K D D1 D2 kp tl I J R) {n : Int32} {v : Int64} : Cal E d M_X10_write [.ref 0, .int n, .long v] NC I J R (OK (wrT t len n v) (wrN len n) K D D1 D2 kp tl (some (.int (a_write len n))) I J) := by
  have h' := h
  obtain ⟨co, dr, cc, a1, a2, hw, rfl, hX, hS, hT, hD, hC⟩ := h
  have hco := hw.co
  have hlen := hT.1.1
  have e1 : (1 : Int32).toInt = 1 := by decide
  have e8 : (8 : Int32).toInt = 8 := by decide
  refine Cal_of kn_X10_write rfl (Nat.le_of_ble_eq_true rfl) ?_
  cases hv : wrI n
  · have hx := of_decide_eq_false hv
    have fin : OK (wrT t len n v) (wrN len n) K D D1 D2 kp tl (some (.int (a_write len n))) I J (some (.int (-1))) NC I J (RR co dr cc a1 a2) := by
      rw [wrT, wrN, a_write, wrOk, hv]; exact OK.same h'
    by_cases h1 : n < 1
    · refine V_iload_n dX10_write_0 rfl rfl (V_iconst (v := 1) dX10_write_1 (by decide) ?_)
      refine V_icmp_lt_t (tgt := 11) dX10_write_2 (by decide) (h1) ?_
      refine V_iconst (v := (-1)) dX10_write_11 (by decide) ?_
      refine V_ireturn dX10_write_12 rfl rfl rfl (by decide) (by decide) ?_
      exact fin
    · have := (not_congr (fa_lt _ _)).mp h1
      refine V_iload_n dX10_write_0 rfl rfl (V_iconst (v := 1) dX10_write_1 (by decide) ?_)
      refine V_icmp_lt_f (tgt := 11) dX10_write_2 (by decide) (h1) ?_
      refine V_iload_n dX10_write_5 rfl rfl (V_bipush (v := 8) dX10_write_6 (by decide) ?_)
      refine V_icmp_le_f (tgt := 13) dX10_write_8 (by decide) (by rw [fa_le, e8]; omega) ?_
      refine V_iconst (v := (-1)) dX10_write_11 (by decide) ?_
      refine V_ireturn dX10_write_12 rfl rfl rfl (by decide) (by decide) ?_
      exact fin
  · obtain ⟨n1, n2⟩ := wrI_cl hv
    have hx := of_decide_eq_true hv
    have c1 : ¬ n < 1 := by rw [fa_lt, e1]; omega
    have c2 : n ≤ 8 := by rw [fa_le, e8]; omega
    have es : I 0 1 + n = nI (len + cl n) := by rw [hT.2, ← nI_add, ← n2]
    by_cases hf : len + cl n ≤ 400
    · have hok : wrOk len n = true := by rw [wrOk, hv, decide_eq_true hf]; rfl
      refine V_iload_n dX10_write_0 rfl rfl (V_iconst (v := 1) dX10_write_1 (by decide) ?_)
      refine V_icmp_lt_f (tgt := 11) dX10_write_2 (by decide) (c1) ?_
      refine V_iload_n dX10_write_5 rfl rfl (V_bipush (v := 8) dX10_write_6 (by decide) ?_)
      refine V_icmp_le_t (tgt := 13) dX10_write_8 (by decide) (c2) ?_
      refine V_aload_n dX10_write_13 rfl rfl ?_
      refine V_getI dX10_write_14 fl_X10_102 (by first | assumption | exact ⟨by decide, rfl⟩) ?_
      refine V_iload_n dX10_write_17 rfl rfl (V_iadd dX10_write_18 (V_sipush (v := 400) dX10_write_19 (by decide) ?_))
      refine V_icmp_le_t (tgt := 28) dX10_write_22 (by decide) (by rw [es, show (400 : Int32) = nI 400 from rfl, lit_le (by omega) (by omega)]; exact hf) ?_
      refine V_iload_n dX10_write_28 rfl rfl (V_iconst (v := 1) dX10_write_29 (by decide) (V_isub dX10_write_30 (V_istore_4 dX10_write_31 (by decide) rfl ?_)))
      rw [wrT, wrN, a_write, hok, hv, if_pos rfl, if_pos hf]
      have key : ∀ r, r ≤ cl n → ∀ I1, (∀ x y, x ≠ 1 → (x ≠ 0 ∨ y ≠ 1) → I1 x y = I x y) → I1 0 1 = nI (len + (cl n - r)) → (∀ j, j < len + (cl n - r) → I1 1 j = sg (if len ≤ j ∧ j < len + cl n then byt v (cl n - 1 - (j - len)) else t j)) → V E d M_X10_write (OK (if true = true then (fun j => if len ≤ j ∧ j < len + cl n then byt v (cl n - 1 - (j - len)) else t j) else t) (if true = true then len + cl n else len) K D D1 D2 kp tl (some (.int (nI (len + cl n)))) I J) 33 [some (.ref 0), some (.int n), some (.long v), none, some (.int (nI r - 1))] [] NC 0 0 I1 J (RR co dr cc a1 a2) := by
        intro r
        induction r with
        | zero =>
          intro _ I1 f1 g1 g2
          refine V_iload dX10_write_33 rfl ?_
          refine V_if_lt_t (tgt := 72) dX10_write_35 (by decide) (by decide) ?_
          refine V_aload_n dX10_write_72 rfl rfl ?_
          refine V_getI dX10_write_73 fl_X10_102 (by first | assumption | exact ⟨by decide, rfl⟩) ?_
          refine V_ireturn dX10_write_76 rfl rfl rfl (by decide) (by decide) ?_
          rw [g1]
          refine ⟨by rw [Nat.sub_zero], rfl, ⟨co, dr, cc, a1, a2, hw, rfl, hX.of (fun x y p q => f1 x y (by omega) (by omega)), hS.of (fun b => ⟨f1 _ _ (by omega) (by omega), f1 _ _ (by omega) (by omega)⟩), ⟨⟨hf, fun j hj => ⟨g2 j (by rw [Nat.sub_zero]; exact hj), ?_⟩⟩, by rw [g1, Nat.sub_zero]; rfl⟩, hD.of (fun x y p q => f1 x y (by omega) (by omega)) (f1 _ _ (by omega) (by omega)), hC.of (fun x y p q => f1 x y (by omega) (by omega)) (fun _ => rfl)⟩, fun x y p => f1 x y (by omega) (by omega), fun _ _ _ => rfl⟩
          show (if _ then _ else _) < 256
          split
          · exact byt_lt _ _
          · rename_i q
            have hj : j < len + cl n := hj
            exact (hT.1.2 j (by omega)).2
        | succ r ih =>
          intro hr I1 f1 g1 g2
          rw [m1_nI]
          refine V_iload dX10_write_33 rfl ?_
          refine V_if_lt_f (tgt := 72) dX10_write_35 (by decide) (nI_nn (by omega)) ?_
          refine V_aload_n dX10_write_38 rfl rfl ?_
          refine V_getR dX10_write_39 fl_X10_9 (by first | assumption | exact ⟨by decide, rfl⟩) (by first | assumption | rfl) ?_
          refine V_aload_n dX10_write_42 rfl rfl ?_
          refine V_getI dX10_write_43 fl_X10_102 (by first | assumption | exact ⟨by decide, rfl⟩) ?_
          refine V_lload_n dX10_write_46 rfl rfl (V_bipush (v := 8) dX10_write_47 (by decide) (V_iload dX10_write_49 rfl (V_imul dX10_write_51 (V_lushr dX10_write_52 (V_l2i dX10_write_53 ?_)))))
          refine V_i2b dX10_write_54 ?_
          refine V_bas dX10_write_55 (by first | assumption | exact ⟨by decide, rfl⟩) (show ix _ (len + (cl n - (r + 1))) 400 from ⟨g1, by omega⟩) ?_
          refine V_aload_n dX10_write_56 rfl rfl (V_dup dX10_write_57 rfl ?_)
          refine V_getI dX10_write_58 fl_X10_102 (by first | assumption | exact ⟨by decide, rfl⟩) ?_
          refine V_iconst (v := 1) dX10_write_61 (by decide) (V_iadd dX10_write_62 ?_)
          refine V_putI dX10_write_63 fl_X10_102 (by first | assumption | exact ⟨by decide, rfl⟩) ?_
          refine V_iinc_4 (w := (-1)) dX10_write_66 (by decide) (by decide) rfl (V_goto (tgt := 33) dX10_write_69 (by decide) ?_)
          rw [add_m1, fb_byte_twice, show (v.toUInt64 >>> (((8 : Int32) * nI r).toInt64.toUInt64 &&& Int64.toUInt64 63)).toInt64 = luS v ((8 : Int32) * nI r) from rfl, byte_c v (by omega), u2n (a := 0) (by omega), g1, nI_1, show len + (cl n - (r + 1)) + 1 = len + (cl n - r) by omega]
          refine ih (by omega) _ (fun x y p q => by rw [u2n (by omega), u2n (by omega)]; exact f1 x y p q) u2e (fun j hj => ?_)
          rw [u2n (by omega)]
          by_cases hj2 : j = len + (cl n - (r + 1))
          · rw [hj2, u2e, if_pos (by omega), show cl n - 1 - (len + (cl n - (r + 1)) - len) = r by omega]
          · rw [u2n (by omega)]; exact g2 j (by omega)
      have h9 := key (cl n) (Nat.le_refl _) I (fun _ _ _ _ => rfl) (by rw [Nat.sub_self]; exact hT.2) (fun j hj => by
        have hj : j < len := by omega
        rw [if_neg (by omega)]; exact (hT.1.2 j hj).1)
      rw [← n2] at h9
      exact h9
    · refine V_iload_n dX10_write_0 rfl rfl (V_iconst (v := 1) dX10_write_1 (by decide) ?_)
      refine V_icmp_lt_f (tgt := 11) dX10_write_2 (by decide) (c1) ?_
      refine V_iload_n dX10_write_5 rfl rfl (V_bipush (v := 8) dX10_write_6 (by decide) ?_)
      refine V_icmp_le_t (tgt := 13) dX10_write_8 (by decide) (c2) ?_
      refine V_aload_n dX10_write_13 rfl rfl ?_
      refine V_getI dX10_write_14 fl_X10_102 (by first | assumption | exact ⟨by decide, rfl⟩) ?_
      refine V_iload_n dX10_write_17 rfl rfl (V_iadd dX10_write_18 (V_sipush (v := 400) dX10_write_19 (by decide) ?_))
      refine V_icmp_le_f (tgt := 28) dX10_write_22 (by decide) (by rw [es, show (400 : Int32) = nI 400 from rfl, lit_le (by omega) (by omega)]; exact hf) ?_
      refine V_bipush (v := (-3)) dX10_write_25 (by decide) ?_
      refine V_ireturn dX10_write_27 rfl rfl rfl (by decide) (by decide) ?_
      rw [wrT, wrN, a_write, wrOk, hv, decide_eq_false hf, if_pos rfl, if_neg hf]
      exact OK.same h'
theorem rop_write (hd : 2 ≤ d) (h : MS t len K D D1 D2 kp tl I) {n : Int32} {v : Int64} : Cal E d M_X11_write [.ref 70, .int n, .long v] NC I J (RR co dr cc a1 a2) (MK (wrT t len n v) (wrN len n) K D D1 D2 kp tl (some (.int (a_write len n))) I J (RR co dr cc a1 a2)) := by
  have h' := h
  obtain ⟨hB, hM, hR, hT, hD⟩ := h
  have hlen := hT.1
  refine Cal_of kn_X11_write rfl (Nat.le_of_ble_eq_true rfl) ?_
  refine V_iload_n dX11_write_0 rfl rfl (V_i2l dX11_write_1 (V_lconst (v := 1) dX11_write_2 rfl (V_ldc2_w dX11_write_3 ct_X11_122 ?_)))
  refine V_cS3i (M' := M_X11_in) (d' := 1) dX11_write_6 (Or.inl ml_X11_124) kb_X11_in (by first | decide | omega) (by simp [Value.category]) ⟨by decide, by decide⟩ ?_
  refine mr_in ⟨_, rfl, ?_⟩
  have ew : decide ((1 : Int64).toInt ≤ n.toInt64.toInt ∧ n.toInt64.toInt ≤ (8 : Int64).toInt) = wrI n := in_C (u := 1) (v := 8) (by decide) (by decide)
  rw [ew]
  cases hv : wrI n
  · refine V_if_ne_f (tgt := 14) dX11_write_9 (by decide) (rfl) ?_
    refine V_iconst (v := (-1)) dX11_write_12 (by decide) ?_
    refine V_ireturn dX11_write_13 rfl rfl rfl (by decide) (by decide) ?_
    rw [wrT, wrN, a_write, wrOk, hv]; exact MK.same h'
  · obtain ⟨n1, n2⟩ := wrI_cl hv
    have es : I 70 0 + n = nI (len + cl n) := by rw [hT.2.1, ← nI_add, ← n2]
    by_cases hf : len + cl n ≤ 400
    · have hok : wrOk len n = true := by rw [wrOk, hv, decide_eq_true hf]; rfl
      refine V_if_ne_t (tgt := 14) dX11_write_9 (by decide) (by decide) ?_
      refine V_aload_n dX11_write_14 rfl rfl ?_
      refine V_getI dX11_write_15 fl_X11_128 (by first | assumption | exact ⟨by decide, rfl⟩) ?_
      refine V_iload_n dX11_write_18 rfl rfl (V_iadd dX11_write_19 (V_sipush (v := 400) dX11_write_20 (by decide) ?_))
      refine V_icmp_le_t (tgt := 29) dX11_write_23 (by decide) (by rw [es, show (400 : Int32) = nI 400 from rfl, lit_le (by omega) (by omega)]; exact hf) ?_
      refine V_iload_n dX11_write_29 rfl rfl (V_iconst (v := 1) dX11_write_30 (by decide) (V_isub dX11_write_31 (V_istore_4 dX11_write_32 (by decide) rfl ?_)))
      rw [wrT, wrN, a_write, hok, hv, if_pos rfl, if_pos hf]
      have key : ∀ r, r ≤ cl n → ∀ I1, (∀ x y, x ≠ 71 → (x ≠ 70 ∨ y ≠ 0) → I1 x y = I x y) → I1 70 0 = nI (len + (cl n - r)) → (∀ j, j < len + (cl n - r) → I1 71 j = nI (if len ≤ j ∧ j < len + cl n then byt v (cl n - 1 - (j - len)) else t j)) → V E d M_X11_write (MK (if true = true then (fun j => if len ≤ j ∧ j < len + cl n then byt v (cl n - 1 - (j - len)) else t j) else t) (if true = true then len + cl n else len) K D D1 D2 kp tl (some (.int (nI (len + cl n)))) I J (RR co dr cc a1 a2)) 34 [some (.ref 70), some (.int n), some (.long v), none, some (.int (nI r - 1))] [] NC 0 0 I1 J (RR co dr cc a1 a2) := by
        intro r
        induction r with
        | zero =>
          intro _ I1 f1 g1 g2
          refine V_iload dX11_write_34 rfl ?_
          refine V_if_lt_t (tgt := 76) dX11_write_36 (by decide) (by decide) ?_
          refine V_aload_n dX11_write_76 rfl rfl ?_
          refine V_getI dX11_write_77 fl_X11_128 (by first | assumption | exact ⟨by decide, rfl⟩) ?_
          refine V_ireturn dX11_write_80 rfl rfl rfl (by decide) (by decide) ?_
          rw [g1]
          refine ⟨by rw [Nat.sub_zero], rfl, rfl, ⟨hB, hM.all hB (fun x y a b => f1 x y (by omega) (by omega)), hR.of (fun y => f1 _ _ (by omega) (by omega)) (fun y => f1 _ _ (by omega) (by omega)), ⟨hf, by rw [g1, Nat.sub_zero]; rfl, fun j hj => ⟨g2 j (by rw [Nat.sub_zero]; exact hj), ?_⟩⟩, hD.of (fun x y a b => f1 x y (by omega) (by omega)) (f1 _ _ (by omega) (by omega))⟩, fun x y p => f1 x y (by omega) (by omega), fun _ _ _ => rfl⟩
          show (if _ then _ else _) < 256
          split
          · exact byt_lt _ _
          · rename_i q
            have hj : j < len + cl n := hj
            exact (hT.2.2 j (by omega)).2
        | succ r ih =>
          intro hr I1 f1 g1 g2
          rw [m1_nI]
          refine V_iload dX11_write_34 rfl ?_
          refine V_if_lt_f (tgt := 76) dX11_write_36 (by decide) (nI_nn (by omega)) ?_
          refine V_aload_n dX11_write_39 rfl rfl ?_
          refine V_getR dX11_write_40 fl_X11_7 (by first | assumption | exact ⟨by decide, rfl⟩) (by first | assumption | rfl) ?_
          refine V_aload_n dX11_write_43 rfl rfl ?_
          refine V_getI dX11_write_44 fl_X11_128 (by first | assumption | exact ⟨by decide, rfl⟩) ?_
          refine V_lload_n dX11_write_47 rfl rfl (V_bipush (v := 8) dX11_write_48 (by decide) (V_iload dX11_write_50 rfl (V_imul dX11_write_52 (V_lshr dX11_write_53 (V_ldc2_w dX11_write_54 ct_X11_132 ?_)))))
          refine V_land dX11_write_57 (V_l2i dX11_write_58 ?_)
          refine V_ias dX11_write_59 (by first | assumption | exact ⟨by decide, rfl⟩) (show ix _ (len + (cl n - (r + 1))) 400 from ⟨g1, by omega⟩) ?_
          refine V_aload_n dX11_write_60 rfl rfl (V_dup dX11_write_61 rfl ?_)
          refine V_getI dX11_write_62 fl_X11_128 (by first | assumption | exact ⟨by decide, rfl⟩) ?_
          refine V_iconst (v := 1) dX11_write_65 (by decide) (V_iadd dX11_write_66 ?_)
          refine V_putI dX11_write_67 fl_X11_128 (by first | assumption | exact ⟨by decide, rfl⟩) ?_
          refine V_iinc_4 (w := (-1)) dX11_write_70 (by decide) (by decide) rfl (V_goto (tgt := 34) dX11_write_73 (by decide) ?_)
          rw [add_m1, byte_m v (by omega), u2n (a := 70) (by omega), g1, nI_1, show len + (cl n - (r + 1)) + 1 = len + (cl n - r) by omega]
          refine ih (by omega) _ (fun x y p q => by rw [u2n (by omega), u2n (by omega)]; exact f1 x y p q) u2e (fun j hj => ?_)
          rw [u2n (by omega)]
          by_cases hj2 : j = len + (cl n - (r + 1))
          · rw [hj2, u2e, if_pos (by omega), show cl n - 1 - (len + (cl n - (r + 1)) - len) = r by omega]
          · rw [u2n (by omega)]; exact g2 j (by omega)
      have h9 := key (cl n) (Nat.le_refl _) I (fun _ _ _ _ => rfl) (by rw [Nat.sub_self]; exact hT.2.1) (fun j hj => by
        have hj : j < len := by omega
        rw [if_neg (by omega)]; exact (hT.2.2 j hj).1)
      rw [← n2] at h9
      exact h9
    · refine V_if_ne_t (tgt := 14) dX11_write_9 (by decide) (by decide) ?_
      refine V_aload_n dX11_write_14 rfl rfl ?_
      refine V_getI dX11_write_15 fl_X11_128 (by first | assumption | exact ⟨by decide, rfl⟩) ?_
      refine V_iload_n dX11_write_18 rfl rfl (V_iadd dX11_write_19 (V_sipush (v := 400) dX11_write_20 (by decide) ?_))
      refine V_icmp_le_f (tgt := 29) dX11_write_23 (by decide) (by rw [es, show (400 : Int32) = nI 400 from rfl, lit_le (by omega) (by omega)]; exact hf) ?_
      refine V_bipush (v := (-3)) dX11_write_26 (by decide) ?_
      refine V_ireturn dX11_write_28 rfl rfl rfl (by decide) (by decide) ?_
      rw [wrT, wrN, a_write, wrOk, hv, decide_eq_false hf, if_pos rfl, if_neg hf]
      exact MK.same h'
end
