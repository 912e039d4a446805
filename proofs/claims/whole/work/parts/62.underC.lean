/-! Understudies: the best cover, the fewest for pairs -/
noncomputable def engV (o : Option (Nat × Nat)) : Int32 := match o with | none => -4 | some r => nI (10 * (r.1 / 8) + r.1 % 8)
theorem eng_in {K : KT} {k : Nat} : ∀ {c : Nat}, c ≤ ncv K → ∀ r, eng K k c = some r → r.1 < 8 * K 0 0 ∧ r.2 ≤ 2 ^ K 0 0
  | 0, _, r, h => by cases h
  | c + 1, hc, r, h => by
    have base := cvn_ok (K := K) (c := c) (by omega)
    have wl : wt K k (cvn K c) ≤ 2 ^ K 0 0 := fb_ct_le _ _
    unfold eng at h
    cases he : eng K k c with
    | none => rw [he] at h; cases h; exact ⟨base.1, wl⟩
    | some r' =>
      rw [he] at h
      dsimp only at h
      by_cases hl : wt K k (cvn K c) < r'.2
      · rw [if_pos hl] at h; cases h; exact ⟨base.1, wl⟩
      · rw [if_neg hl] at h; cases h; exact eng_in (by omega) _ he
section
variable {E : En} {I : TI} {J : TJ} {co dr : Nat} {cc a1 a2 : Option Nat} {Post : PT} {e : Nat} {K : KT} {off : Nat}
theorem sp_findBest {d k : Nat} (hd : 2 ≤ d) (hB : KB K) (hk : k = 1 ∨ k = 2) (hC : CVS I K (8 * K 0 0)) (h3 : I 53 3 = nI (ncv K)) (hU : SUR J K k) (Kk : ∀ I', (∀ x y, (x ≠ 53 ∨ (y ≠ 8 ∧ y ≠ 9)) → I' x y = I x y) → I' 53 8 = engV (eng K k (ncv K)) → (∀ r, eng K k (ncv K) = some r → I' 53 9 = nI r.2) → Post none NC I' J (RR co dr cc a1 a2)) : Cal E d M_X9_findBest [.ref 53, .int (nI k), .int (nI (wW K k))] NC I J (RR co dr cc a1 a2) Post := by
  have hP := hB.1.1
  have hQ := hB.1.2.1
  have hpw : 2 ^ K 0 0 ≤ 1024 := Nat.pow_le_pow_right (n := 2) (by decide) hP
  have hn := ncv_le hB
  have hW := wW_le (K := K) (k := k) hB (by omega)
  refine Cal_of kn_X9_findBest rfl (Nat.le_of_ble_eq_true rfl) ?_
  refine V_aload_n dX9_findBest_0 rfl rfl (V_bipush (v := (-4)) dX9_findBest_1 (by decide) ?_)
  refine V_putI dX9_findBest_3 fl_X9_93 (by first | assumption | exact ⟨by decide, rfl⟩) ?_
  refine V_iconst (v := 0) dX9_findBest_6 (by decide) (V_istore_3 dX9_findBest_7 (by decide) rfl ?_)
  have key : ∀ c, c ≤ ncv K → ∀ (I1 : TI) (o4 : Option Value), (∀ x y, (x ≠ 53 ∨ (y ≠ 8 ∧ y ≠ 9)) → I1 x y = I x y) → I1 53 8 = engV (eng K k c) → (∀ r, eng K k c = some r → I1 53 9 = nI r.2) → V E d M_X9_findBest Post 8 [some (.ref 53), some (.int (nI k)), some (.int (nI (wW K k))), some (.int (nI c)), o4] [] NC 0 0 I1 J (RR co dr cc a1 a2) := by
    refine loop_up _ ?_ ?_
    · intro I1 o4 g1 g2 g3
      refine V_iload_n dX9_findBest_8 rfl rfl (V_aload_n dX9_findBest_9 rfl rfl ?_)
      refine V_getI dX9_findBest_10 fl_X9_51 (by first | assumption | exact ⟨by decide, rfl⟩) ?_
      refine V_icmp_ge_t (tgt := 84) dX9_findBest_13 (by decide) (by rw [g1 _ _ (by omega), h3]; exact nI_le (Nat.le_refl _) (by omega)) ?_
      refine V_return dX9_findBest_84 rfl rfl (by decide) (by decide) ?_
      exact Kk I1 g1 g2 g3
    · intro c hc ih I1 o4 g1 g2 g3
      obtain ⟨c1, c2⟩ := hC.at hc
      obtain ⟨l1, l2⟩ := cvn_in hc
      have hpm := popL_hm K (k := k) hB (by omega) c
      refine V_iload_n dX9_findBest_8 rfl rfl (V_aload_n dX9_findBest_9 rfl rfl ?_)
      refine V_getI dX9_findBest_10 fl_X9_51 (by first | assumption | exact ⟨by decide, rfl⟩) ?_
      refine V_icmp_ge_f (tgt := 84) dX9_findBest_13 (by decide) (by rw [g1 _ _ (by omega), h3]; exact nI_ge hc (by omega)) ?_
      refine V_iload_n dX9_findBest_16 rfl rfl (V_aload_n dX9_findBest_17 rfl rfl ?_)
      refine V_getR dX9_findBest_18 fl_X9_25 (by first | assumption | exact ⟨by decide, rfl⟩) (by first | assumption | rfl) ?_
      refine V_iload_n dX9_findBest_21 rfl rfl (V_bipush (v := 80) dX9_findBest_22 (by decide) (V_imul dX9_findBest_24 (V_iload_n dX9_findBest_25 rfl rfl (V_iadd dX9_findBest_26 ?_))))
      refine V_lal dX9_findBest_27 (by first | assumption | exact ⟨by decide, rfl⟩) (show ix _ (80 * k + c) 240 from ⟨(by rw [show (80 : Int32) = nI 80 from rfl, pk_mul, nI_add, Nat.mul_comm]), by omega⟩) ?_
      refine V_cS1i (M' := M_J13_bitCount_95d88) (d' := 1) dX9_findBest_28 (Or.inl ml_X9_96) kb_J13_bitCount_95d88 (by first | decide | omega) (by simp [Value.category]) ⟨by decide, by decide⟩ ?_
      rw [hU c hc]
      refine sp_bitCountL ⟨_, rfl, ?_⟩
      rw [bcL_pop (hm_lt K hB (by omega) c)]
      have ew : nI (wW K k) - nI (popL (hm K k c)) = nI (wt K k (cvn K c)) := by
        rw [pk_sub (by omega)]
        congr 1
        omega
      have wl : wt K k (cvn K c) ≤ 2 ^ K 0 0 := fb_ct_le _ _
      have take : eng K k (c + 1) = some (cvn K c, wt K k (cvn K c)) → V E d M_X9_findBest Post 52 [some (.ref 53), some (.int (nI k)), some (.int (nI (wW K k))), some (.int (nI c)), some (.int (nI (wt K k (cvn K c))))] [] NC 0 0 I1 J (RR co dr cc a1 a2) := by
        intro he
        refine V_aload_n dX9_findBest_52 rfl rfl (V_bipush (v := 10) dX9_findBest_53 (by decide) (V_aload_n dX9_findBest_55 rfl rfl ?_))
        refine V_getR dX9_findBest_56 fl_X9_18 (by first | assumption | exact ⟨by decide, rfl⟩) (by first | assumption | rfl) ?_
        refine V_iload_n dX9_findBest_59 rfl rfl ?_
        refine V_ial dX9_findBest_60 (by first | assumption | exact ⟨by decide, rfl⟩) (show ix _ c 80 from ⟨rfl, by omega⟩) ?_
        refine V_imul dX9_findBest_61 (V_aload_n dX9_findBest_62 rfl rfl ?_)
        refine V_getR dX9_findBest_63 fl_X9_22 (by first | assumption | exact ⟨by decide, rfl⟩) (by first | assumption | rfl) ?_
        refine V_iload_n dX9_findBest_66 rfl rfl ?_
        refine V_ial dX9_findBest_67 (by first | assumption | exact ⟨by decide, rfl⟩) (show ix _ c 80 from ⟨rfl, by omega⟩) ?_
        refine V_iadd dX9_findBest_68 ?_
        refine V_putI dX9_findBest_69 fl_X9_93 (by first | assumption | exact ⟨by decide, rfl⟩) ?_
        refine V_aload_n dX9_findBest_72 rfl rfl (V_iload dX9_findBest_73 rfl ?_)
        refine V_putI dX9_findBest_75 fl_X9_102 (by first | assumption | exact ⟨by decide, rfl⟩) ?_
        refine V_iinc_3 (w := 1) dX9_findBest_78 (by decide) (by decide) rfl (V_goto (tgt := 8) dX9_findBest_81 (by decide) ?_)
        rw [nI_1]
        refine ih _ _ (fun x y h => by rw [u2n (by omega), u2n (by omega)]; exact g1 x y h) ?_ ?_
        · rw [u2n (by omega), u2e, g1 _ _ (by omega), g1 _ _ (by omega), c1, c2, show (10 : Int32) = nI 10 from rfl, pk_mul, nI_add, he]; rfl
        · intro r hr
          rw [he] at hr
          cases hr
          rw [u2e]
      cases he : eng K k c with
      | none =>
        refine V_isub dX9_findBest_31 (V_istore_4 dX9_findBest_32 (by decide) rfl (V_aload_n dX9_findBest_34 rfl rfl ?_))
        refine V_getI dX9_findBest_35 fl_X9_93 (by first | assumption | exact ⟨by decide, rfl⟩) ?_
        refine V_bipush (v := (-4)) dX9_findBest_38 (by decide) ?_
        refine V_icmp_eq_t (tgt := 52) dX9_findBest_40 (by decide) (by rw [g2, he]; rfl) ?_
        rw [ew]
        refine take ?_
        unfold eng; rw [he]
      | some r =>
        obtain ⟨r1, r2⟩ := eng_in (by omega) r he
        have ne : I1 53 8 ≠ -4 := by
          rw [g2, he]
          exact nI_ne4 (by omega)
        by_cases hl : wt K k (cvn K c) < r.2
        · refine V_isub dX9_findBest_31 (V_istore_4 dX9_findBest_32 (by decide) rfl (V_aload_n dX9_findBest_34 rfl rfl ?_))
          refine V_getI dX9_findBest_35 fl_X9_93 (by first | assumption | exact ⟨by decide, rfl⟩) ?_
          refine V_bipush (v := (-4)) dX9_findBest_38 (by decide) ?_
          refine V_icmp_eq_f (tgt := 52) dX9_findBest_40 (by decide) (ne) ?_
          refine V_iload dX9_findBest_43 rfl (V_aload_n dX9_findBest_45 rfl rfl ?_)
          refine V_getI dX9_findBest_46 fl_X9_102 (by first | assumption | exact ⟨by decide, rfl⟩) ?_
          refine V_icmp_ge_f (tgt := 78) dX9_findBest_49 (by decide) (by rw [ew, g3 r he, lit_le (by omega) (by omega)]; omega) ?_
          rw [ew]
          refine take ?_
          unfold eng; rw [he]; dsimp only; rw [if_pos hl]
        · have hs : eng K k (c + 1) = some r := by unfold eng; rw [he]; dsimp only; rw [if_neg hl]
          refine V_isub dX9_findBest_31 (V_istore_4 dX9_findBest_32 (by decide) rfl (V_aload_n dX9_findBest_34 rfl rfl ?_))
          refine V_getI dX9_findBest_35 fl_X9_93 (by first | assumption | exact ⟨by decide, rfl⟩) ?_
          refine V_bipush (v := (-4)) dX9_findBest_38 (by decide) ?_
          refine V_icmp_eq_f (tgt := 52) dX9_findBest_40 (by decide) (ne) ?_
          refine V_iload dX9_findBest_43 rfl (V_aload_n dX9_findBest_45 rfl rfl ?_)
          refine V_getI dX9_findBest_46 fl_X9_102 (by first | assumption | exact ⟨by decide, rfl⟩) ?_
          refine V_icmp_ge_t (tgt := 78) dX9_findBest_49 (by decide) (by rw [ew, g3 r he, lit_le (by omega) (by omega)]; omega) ?_
          refine V_iinc_3 (w := 1) dX9_findBest_78 (by decide) (by decide) rfl (V_goto (tgt := 8) dX9_findBest_81 (by decide) ?_)
          rw [nI_1]
          refine ih I1 _ g1 ?_ ?_
          · rw [g2, hs, he]
          · rw [hs, ← he]; exact g3
  refine key 0 (Nat.zero_le _) _ _ (fun x y h => by rw [u2n (by omega)]) (by rw [u2e]; rfl) (fun r h => by cases h)
theorem sp_areEnough {d c c' : Nat} (hd : 14 ≤ d) (he : e = 4 ∨ e = 18) (hB : KB K) (hX : CoX I e K) (hS : SX I e K) (hC : CVS I K (8 * K 0 0)) (hU : SUR J K 2) (hWk : WKS I K 2 (2 ^ K 0 0)) (h48 : I 48 3 = nI (wW K 2)) (hc : c < ncv K) (hc' : c' < ncv K) (Kk : ∀ I' b2, (∀ x y, x ≠ 54 → x ≠ 55 → I' x y = I x y) → Post (some (.int (b2i (enB K c c')))) NC I' J (RR co dr cc a1 b2)) : Cal E d M_X9_areEnough [.ref 53, .ref e, .ref 48, .int (nI c), .int (nI c')] NC I J (RR co dr cc a1 a2) Post := by
  have hP := hB.1.1
  have hpw : 2 ^ K 0 0 ≤ 1024 := Nat.pow_le_pow_right (n := 2) (by decide) hP
  have hn := ncv_le hB
  have hW := wW_le (K := K) (k := 2) hB (by omega)
  refine Cal_of kn_X9_areEnough rfl (Nat.le_of_ble_eq_true rfl) ?_
  refine V_aload_n dX9_areEnough_0 rfl rfl ?_
  refine V_getR dX9_areEnough_1 fl_X9_25 (by first | assumption | exact ⟨by decide, rfl⟩) (by first | assumption | rfl) ?_
  refine V_sipush (v := 160) dX9_areEnough_4 (by decide) (V_iload_n dX9_areEnough_7 rfl rfl (V_iadd dX9_areEnough_8 ?_))
  refine V_lal dX9_areEnough_9 (by first | assumption | exact ⟨by decide, rfl⟩) (show ix _ (80 * 2 + c) 240 from ⟨(by rw [show (160 : Int32) = nI 160 from rfl, nI_add]), by omega⟩) ?_
  refine V_aload_n dX9_areEnough_10 rfl rfl ?_
  refine V_getR dX9_areEnough_11 fl_X9_25 (by first | assumption | exact ⟨by decide, rfl⟩) (by first | assumption | rfl) ?_
  refine V_sipush (v := 160) dX9_areEnough_14 (by decide) (V_iload dX9_areEnough_17 rfl (V_iadd dX9_areEnough_19 ?_))
  refine V_lal dX9_areEnough_20 (by first | assumption | exact ⟨by decide, rfl⟩) (show ix _ (80 * 2 + c') 240 from ⟨(by rw [show (160 : Int32) = nI 160 from rfl, nI_add]), by omega⟩) ?_
  refine V_lor dX9_areEnough_21 (V_lstore_5 dX9_areEnough_22 (by decide) rfl (V_iconst (v := 0) dX9_areEnough_24 (by decide) (V_istore_7 dX9_areEnough_25 (by decide) rfl ?_)))
  rw [hU c hc, hU c' hc', fb_orL]
  have tb : ∀ w, w < wW K 2 → (hm K 2 c ||| hm K 2 c').testBit w = (hlp K (wkn K 2 w) (cvn K c) || hlp K (wkn K 2 w) (cvn K c')) := fun w hw => by
    rw [Nat.testBit_or, hm, hm, mk_tb, mk_tb, decide_eq_true hw]; rfl
  have key : ∀ w, w ≤ wW K 2 → ∀ (I1 : TI) (b2 : Option Nat), (∀ x y, x ≠ 54 → x ≠ 55 → I1 x y = I x y) → (∀ v, v < w → hlp K (wkn K 2 v) (cvn K c) = true ∨ hlp K (wkn K 2 v) (cvn K c') = true ∨ hlp2 K (wkn K 2 v) (cvn K c) (cvn K c') = true) → V E d M_X9_areEnough Post 27 [some (.ref 53), some (.ref e), some (.ref 48), some (.int (nI c)), some (.int (nI c')), some (.long (lN (hm K 2 c ||| hm K 2 c'))), none, some (.int (nI w))] [] NC 0 0 I1 J (RR co dr cc a1 b2) := by
    refine loop_up _ ?_ ?_
    · intro I1 b2 g1 g2
      refine V_iload dX9_areEnough_27 rfl (V_aload_n dX9_areEnough_29 rfl rfl ?_)
      refine V_getI dX9_areEnough_30 fl_X9_54 (by first | assumption | exact ⟨by decide, rfl⟩) ?_
      refine V_icmp_ge_t (tgt := 74) dX9_areEnough_33 (by decide) (by rw [g1 _ _ (by omega) (by omega), h48]; exact nI_le (Nat.le_refl _) (by omega)) ?_
      refine V_iconst (v := 1) dX9_areEnough_74 (by decide) ?_
      refine V_ireturn dX9_areEnough_75 rfl rfl rfl (by decide) (by decide) ?_
      have := Kk I1 b2 g1
      rw [enB, dcd_t g2] at this
      exact this
    · intro w hw ih I1 b2 g1 g2
      have hX1 : CoX I1 e K := hX.of (fun x y q1 q2 => g1 x y (by omega) (by omega))
      have hS1 : SX I1 e K := hS.of (fun b => ⟨g1 _ b (by omega) (by omega), g1 _ b (by omega) (by omega)⟩)
      have hC1 : CVS I1 K (8 * K 0 0) := fun t ht h => by rw [g1 _ _ (by omega) (by omega), g1 _ _ (by omega) (by omega)]; exact hC t ht h
      have hwl := wkn_lt hw
      have hF : ¬ nI (wW K 2) ≤ nI w := nI_ge hw (by omega)
      have next : ∀ I2 b3, (∀ x y, x ≠ 54 → x ≠ 55 → I2 x y = I x y) → (hlp K (wkn K 2 w) (cvn K c) = true ∨ hlp K (wkn K 2 w) (cvn K c') = true ∨ hlp2 K (wkn K 2 w) (cvn K c) (cvn K c') = true) → V E d M_X9_areEnough Post 68 [some (.ref 53), some (.ref e), some (.ref 48), some (.int (nI c)), some (.int (nI c')), some (.long (lN (hm K 2 c ||| hm K 2 c'))), none, some (.int (nI w))] [] NC 0 0 I2 J (RR co dr cc a1 b3) := by
        intro I2 b3 n1 n2
        refine V_iinc_7 (w := 1) dX9_areEnough_68 (by decide) (by decide) rfl (V_goto (tgt := 27) dX9_areEnough_71 (by decide) ?_)
        rw [nI_1]
        refine ih I2 b3 n1 (fun v hv => ?_)
        by_cases hvw : v = w
        · subst hvw; exact n2
        · exact g2 v (by omega)
      cases ht : (hm K 2 c ||| hm K 2 c').testBit w
      · have hb : (lN (hm K 2 c ||| hm K 2 c') >>> ((nI w).toInt64 &&& 63)) &&& 1 = 0 := by rw [bitL_lN (by omega), ht]; rfl
        refine V_iload dX9_areEnough_27 rfl (V_aload_n dX9_areEnough_29 rfl rfl ?_)
        refine V_getI dX9_areEnough_30 fl_X9_54 (by first | assumption | exact ⟨by decide, rfl⟩) ?_
        refine V_icmp_ge_f (tgt := 74) dX9_areEnough_33 (by decide) (by rw [g1 _ _ (by omega) (by omega), h48]; exact hF) ?_
        refine V_lload dX9_areEnough_36 rfl (V_iload dX9_areEnough_38 rfl (V_lshr dX9_areEnough_40 (V_lconst (v := 1) dX9_areEnough_41 rfl (V_land dX9_areEnough_42 (V_lconst (v := 0) dX9_areEnough_43 rfl ?_)))))
        refine V_lcmp dX9_areEnough_44 ?_
        refine V_if_ne_f (tgt := 68) dX9_areEnough_45 (by decide) ((lg_cmp_eq _ _).mpr hb) ?_
        refine V_aload_n dX9_areEnough_48 rfl rfl (V_aload_n dX9_areEnough_49 rfl rfl (V_aload_n dX9_areEnough_50 rfl rfl ?_))
        refine V_getR dX9_areEnough_51 fl_X9_57 (by first | assumption | exact ⟨by decide, rfl⟩) (by first | assumption | rfl) ?_
        refine V_iload dX9_areEnough_54 rfl ?_
        refine V_ial dX9_areEnough_56 (by first | assumption | exact ⟨by decide, rfl⟩) (show ix _ w 45 from ⟨rfl, by omega⟩) ?_
        refine V_iload_n dX9_areEnough_57 rfl rfl (V_iload dX9_areEnough_58 rfl ?_)
        refine V_cV4i (M' := M_X9_helpTogether) (d' := 13) dX9_areEnough_60 (Or.inl ml_X9_112) kb_X9_helpTogether (by first | assumption | exact ⟨by decide, rfl⟩) (by first | decide | omega) (by simp [Value.category]) ⟨by decide, by decide⟩ ?_
        rw [g1 _ _ (by omega) (by omega), hWk.at hw]
        refine sp_helpTogether (by omega) he hB hX1 hS1 hC1 hc hc' (by omega) (fun I2 b3 m1 => ⟨_, rfl, ?_⟩)
        have m12 : ∀ x y, x ≠ 54 → x ≠ 55 → I2 x y = I x y := fun x y h1 h2 => by rw [m1 x y h1 h2]; exact g1 x y h1 h2
        cases h2 : hlp2 K (wkn K 2 w) (cvn K c) (cvn K c')
        · refine V_if_ne_f (tgt := 68) dX9_areEnough_63 (by decide) (rfl) ?_
          refine V_iconst (v := 0) dX9_areEnough_66 (by decide) ?_
          refine V_ireturn dX9_areEnough_67 rfl rfl rfl (by decide) (by decide) ?_
          have := Kk I2 b3 m12
          rw [tb w hw] at ht
          simp at ht
          rw [enB, dcd_f (fun z => by
            have q := z w hw
            rw [ht.1, ht.2, h2] at q
            simp at q)] at this
          exact this
        · refine V_if_ne_t (tgt := 68) dX9_areEnough_63 (by decide) (by decide) ?_
          exact next I2 b3 m12 (Or.inr (Or.inr h2))
      · have hb : (lN (hm K 2 c ||| hm K 2 c') >>> ((nI w).toInt64 &&& 63)) &&& 1 = 1 := by rw [bitL_lN (by omega), ht]; rfl
        refine V_iload dX9_areEnough_27 rfl (V_aload_n dX9_areEnough_29 rfl rfl ?_)
        refine V_getI dX9_areEnough_30 fl_X9_54 (by first | assumption | exact ⟨by decide, rfl⟩) ?_
        refine V_icmp_ge_f (tgt := 74) dX9_areEnough_33 (by decide) (by rw [g1 _ _ (by omega) (by omega), h48]; exact hF) ?_
        refine V_lload dX9_areEnough_36 rfl (V_iload dX9_areEnough_38 rfl (V_lshr dX9_areEnough_40 (V_lconst (v := 1) dX9_areEnough_41 rfl (V_land dX9_areEnough_42 (V_lconst (v := 0) dX9_areEnough_43 rfl ?_)))))
        refine V_lcmp dX9_areEnough_44 ?_
        refine V_if_ne_t (tgt := 68) dX9_areEnough_45 (by decide) (by rw [hb]; decide) ?_
        refine next I1 b2 g1 ?_
        rw [tb w hw] at ht
        simp at ht
        rcases ht with h | h
        · exact Or.inl h
        · exact Or.inr (Or.inl h)
  exact key 0 (Nat.zero_le _) I a2 (fun _ _ _ _ => rfl) (fun v h => absurd h (by omega))
theorem sp_fewestForPairs {d : Nat} (hd : 15 ≤ d) (he : e = 4 ∨ e = 18) (hB : KB K) (hX : CoX I e K) (hS : SX I e K) (hC : CVS I K (8 * K 0 0)) (h3 : I 53 3 = nI (ncv K)) (hU : SUR J K 2) (hWk : WKS I K 2 (2 ^ K 0 0)) (h48 : I 48 3 = nI (wW K 2)) (hT : TWO I K) (Kk : ∀ I' b2, (∀ x y, x ≠ 54 → x ≠ 55 → (x ≠ 53 ∨ (y ≠ 6 ∧ y ≠ 7)) → I' x y = I x y) → TWO I' K → Post (some (.int (fewV K))) NC I' J (RR co dr cc a1 b2)) : Cal E d M_X9_fewestForPairs [.ref 53, .ref e, .ref 48] NC I J (RR co dr cc a1 a2) Post := by
  have hP := hB.1.1
  have hpw : 2 ^ K 0 0 ≤ 1024 := Nat.pow_le_pow_right (n := 2) (by decide) hP
  have hn := ncv_le hB
  have hW := wW_le (K := K) (k := 2) hB (by omega)
  refine Cal_of kn_X9_fewestForPairs rfl (Nat.le_of_ble_eq_true rfl) ?_
  by_cases hz : wW K 2 = 0
  · refine V_aload_n dX9_fewestForPairs_0 rfl rfl ?_
    refine V_getI dX9_fewestForPairs_1 fl_X9_54 (by first | assumption | exact ⟨by decide, rfl⟩) ?_
    refine V_if_ne_f (tgt := 9) dX9_fewestForPairs_4 (by decide) (by rw [h48, hz]; rfl) ?_
    refine V_iconst (v := 0) dX9_fewestForPairs_7 (by decide) ?_
    refine V_ireturn dX9_fewestForPairs_8 rfl rfl rfl (by decide) (by decide) ?_
    have := Kk I a2 (fun _ _ _ _ _ => rfl) hT
    rw [fewV, if_pos hz] at this
    exact this
  · have fin : oneB K = false → ∀ (I1 : TI) (b2 : Option Nat) (ls : List (Option Value)), ls[0]? = some (some (.ref 53)) → (∀ x y, x ≠ 54 → x ≠ 55 → (x ≠ 53 ∨ (y ≠ 6 ∧ y ≠ 7)) → I1 x y = I x y) → I1 53 6 = 1 → I1 53 7 = b2i (twoB K) → V E d M_X9_fewestForPairs Post 131 ls [] NC 0 0 I1 J (RR co dr cc a1 b2) := by
      intro ho I1 b2 ls hl0 g1 g6 g7
      have := Kk I1 b2 g1 (Or.inr ⟨g6, g7⟩)
      refine V_aload_n dX9_fewestForPairs_131 rfl hl0 ?_
      rw [fewV, if_neg hz, ho] at this
      cases h2 : twoB K
      · refine V_getI dX9_fewestForPairs_132 fl_X9_105 (by first | assumption | exact ⟨by decide, rfl⟩) ?_
        refine V_if_eq_t (tgt := 142) dX9_fewestForPairs_135 (by decide) (by rw [g7, h2]; rfl) ?_
        refine V_bipush (v := (-4)) dX9_fewestForPairs_142 (by decide) ?_
        refine V_ireturn dX9_fewestForPairs_144 rfl rfl rfl (by decide) (by decide) ?_
        rw [h2] at this
        exact this
      · refine V_getI dX9_fewestForPairs_132 fl_X9_105 (by first | assumption | exact ⟨by decide, rfl⟩) ?_
        refine V_if_eq_f (tgt := 142) dX9_fewestForPairs_135 (by decide) (by rw [g7, h2]; decide) ?_
        refine V_iconst (v := 2) dX9_fewestForPairs_138 (by decide) (V_goto (tgt := 144) dX9_fewestForPairs_139 (by decide) ?_)
        refine V_ireturn dX9_fewestForPairs_144 rfl rfl rfl (by decide) (by decide) ?_
        rw [h2] at this
        exact this
    refine V_aload_n dX9_fewestForPairs_0 rfl rfl ?_
    refine V_getI dX9_fewestForPairs_1 fl_X9_54 (by first | assumption | exact ⟨by decide, rfl⟩) ?_
    refine V_if_ne_t (tgt := 9) dX9_fewestForPairs_4 (by decide) (by rw [h48, ← nI_0]; exact fun z => hz ((nI_eq (by omega) (by decide)).mp z)) ?_
    refine V_lconst (v := 1) dX9_fewestForPairs_9 rfl (V_aload_n dX9_fewestForPairs_10 rfl rfl ?_)
    refine V_getI dX9_fewestForPairs_11 fl_X9_54 (by first | assumption | exact ⟨by decide, rfl⟩) ?_
    refine V_lshl dX9_fewestForPairs_14 (V_lconst (v := 1) dX9_fewestForPairs_15 rfl (V_lsub dX9_fewestForPairs_16 (V_lstore_3 dX9_fewestForPairs_17 (by decide) rfl (V_iconst (v := 0) dX9_fewestForPairs_18 (by decide) (V_istore_5 dX9_fewestForPairs_19 (by decide) rfl ?_)))))
    rw [h48, all_lN (by omega)]
    have hall : 2 ^ wW K 2 - 1 < 2 ^ 63 := by
      have := Nat.pow_le_pow_right (n := 2) (by decide) hW
      have h45 : (2 : Nat) ^ 45 < 2 ^ 63 := by decide
      omega
    have key : ∀ c, c ≤ ncv K → (∀ c', c' < c → hm K 2 c' ≠ 2 ^ wW K 2 - 1) → V E d M_X9_fewestForPairs Post 21 [some (.ref 53), some (.ref e), some (.ref 48), some (.long (lN (2 ^ wW K 2 - 1))), none, some (.int (nI c)), none] [] NC 0 0 I J (RR co dr cc a1 a2) := by
      refine loop_up _ ?_ ?_
      · intro g2
        have ho : oneB K = false := dcd_f (fun z => by
          obtain ⟨c, hc, h⟩ := z
          exact g2 c hc ((hm_all K c).mpr h))
        rcases hT with h6 | ⟨h6, h7⟩
        · refine V_iload dX9_fewestForPairs_21 rfl (V_aload_n dX9_fewestForPairs_23 rfl rfl ?_)
          refine V_getI dX9_fewestForPairs_24 fl_X9_51 (by first | assumption | exact ⟨by decide, rfl⟩) ?_
          refine V_icmp_ge_t (tgt := 54) dX9_fewestForPairs_27 (by decide) (by rw [h3]; exact nI_le (Nat.le_refl _) (by omega)) ?_
          refine V_aload_n dX9_fewestForPairs_54 rfl rfl ?_
          refine V_getI dX9_fewestForPairs_55 fl_X9_33 (by first | assumption | exact ⟨by decide, rfl⟩) ?_
          refine V_if_ne_f (tgt := 131) dX9_fewestForPairs_58 (by decide) (by rw [h6]) ?_
          refine V_aload_n dX9_fewestForPairs_61 rfl rfl (V_iconst (v := 1) dX9_fewestForPairs_62 (by decide) ?_)
          refine V_putZ dX9_fewestForPairs_63 fl_X9_33 (by first | assumption | exact ⟨by decide, rfl⟩) (by first | exact Or.inl rfl | exact Or.inr rfl) ?_
          refine V_aload_n dX9_fewestForPairs_66 rfl rfl (V_iconst (v := 0) dX9_fewestForPairs_67 (by decide) ?_)
          refine V_putZ dX9_fewestForPairs_68 fl_X9_105 (by first | assumption | exact ⟨by decide, rfl⟩) (by first | exact Or.inl rfl | exact Or.inr rfl) ?_
          refine V_iconst (v := 0) dX9_fewestForPairs_71 (by decide) (V_istore_5 dX9_fewestForPairs_72 (by decide) rfl ?_)
          have key1 : ∀ c, c ≤ ncv K → ∀ (I1 : TI) (b2 : Option Nat) (b : Bool) (o6 : Option Value), (∀ x y, x ≠ 54 → x ≠ 55 → (x ≠ 53 ∨ (y ≠ 6 ∧ y ≠ 7)) → I1 x y = I x y) → I1 53 6 = 1 → I1 53 7 = b2i b → (b = true → twoB K = true) → (b = false → ∀ c1 c2, c1 < c → c1 < c2 → c2 < ncv K → enB K c1 c2 = false) → V E d M_X9_fewestForPairs Post 74 [some (.ref 53), some (.ref e), some (.ref 48), some (.long (lN (2 ^ wW K 2 - 1))), none, some (.int (nI c)), o6] [] NC 0 0 I1 J (RR co dr cc a1 b2) := by
            refine loop_up _ ?_ ?_
            · intro I1 b2 b o6 g1 g6 g7 gt gf
              have q3 : I1 53 3 = nI (ncv K) := by rw [g1 _ _ (by omega) (by omega) (by omega)]; exact h3
              refine V_iload dX9_fewestForPairs_74 rfl (V_aload_n dX9_fewestForPairs_76 rfl rfl ?_)
              refine V_getI dX9_fewestForPairs_77 fl_X9_51 (by first | assumption | exact ⟨by decide, rfl⟩) ?_
              refine V_icmp_ge_t (tgt := 131) dX9_fewestForPairs_80 (by decide) (by rw [q3]; exact nI_le (Nat.le_refl _) (by omega)) ?_
              refine fin ho I1 b2 _ rfl g1 g6 ?_
              rw [g7]
              cases b
              · rw [twoB, dcd_f]
                intro z
                obtain ⟨c1, c2, z1, z2, z3⟩ := z
                rw [gf rfl c1 c2 (by omega) z1 z2] at z3
                cases z3
              · rw [gt rfl]
            · intro c hc ih I1 b2 b o6 g1 g6 g7 gt gf
              have q3 : ∀ I2 : TI, (∀ x y, x ≠ 54 → x ≠ 55 → (x ≠ 53 ∨ (y ≠ 6 ∧ y ≠ 7)) → I2 x y = I x y) → I2 53 3 = nI (ncv K) := fun I2 h => by rw [h _ _ (by omega) (by omega) (by omega)]; exact h3
              refine V_iload dX9_fewestForPairs_74 rfl (V_aload_n dX9_fewestForPairs_76 rfl rfl ?_)
              refine V_getI dX9_fewestForPairs_77 fl_X9_51 (by first | assumption | exact ⟨by decide, rfl⟩) ?_
              refine V_icmp_ge_f (tgt := 131) dX9_fewestForPairs_80 (by decide) (by rw [q3 I1 g1]; exact nI_ge hc (by omega)) ?_
              refine V_iload dX9_fewestForPairs_83 rfl (V_iconst (v := 1) dX9_fewestForPairs_85 (by decide) (V_iadd dX9_fewestForPairs_86 (V_istore_6 dX9_fewestForPairs_87 (by decide) rfl ?_)))
              rw [nI_1]
              have key2 : ∀ c', c' ≤ ncv K → c < c' → ∀ (I2 : TI) (b3 : Option Nat) (b' : Bool), (∀ x y, x ≠ 54 → x ≠ 55 → (x ≠ 53 ∨ (y ≠ 6 ∧ y ≠ 7)) → I2 x y = I x y) → I2 53 6 = 1 → I2 53 7 = b2i b' → (b' = true → twoB K = true) → (b' = false → (∀ c1 c2, c1 < c → c1 < c2 → c2 < ncv K → enB K c1 c2 = false) ∧ ∀ c2, c < c2 → c2 < c' → enB K c c2 = false) → V E d M_X9_fewestForPairs Post 89 [some (.ref 53), some (.ref e), some (.ref 48), some (.long (lN (2 ^ wW K 2 - 1))), none, some (.int (nI c)), some (.int (nI c'))] [] NC 0 0 I2 J (RR co dr cc a1 b3) := by
                have out : ∀ c' (I2 : TI) (b3 : Option Nat) (b' : Bool), (∀ x y, x ≠ 54 → x ≠ 55 → (x ≠ 53 ∨ (y ≠ 6 ∧ y ≠ 7)) → I2 x y = I x y) → I2 53 6 = 1 → I2 53 7 = b2i b' → (b' = true → twoB K = true) → (b' = false → (∀ c1 c2, c1 < c → c1 < c2 → c2 < ncv K → enB K c1 c2 = false) ∧ ∀ c2, c < c2 → c2 < ncv K → enB K c c2 = false) → V E d M_X9_fewestForPairs Post 125 [some (.ref 53), some (.ref e), some (.ref 48), some (.long (lN (2 ^ wW K 2 - 1))), none, some (.int (nI c)), some (.int (nI c'))] [] NC 0 0 I2 J (RR co dr cc a1 b3) := by
                  intro c' I2 b3 b' n1 n6 n7 nt nf
                  refine V_iinc_5 (w := 1) dX9_fewestForPairs_125 (by decide) (by decide) rfl (V_goto (tgt := 74) dX9_fewestForPairs_128 (by decide) ?_)
                  rw [nI_1]
                  refine ih I2 b3 b' _ n1 n6 n7 nt (fun hb c1 c2 y1 y2 y3 => ?_)
                  by_cases hcc : c1 = c
                  · subst hcc; exact (nf hb).2 c2 y2 y3
                  · exact (nf hb).1 c1 c2 (by omega) y2 y3
                refine loop_up _ ?_ ?_
                · intro _ I2 b3 b' n1 n6 n7 nt nf
                  refine V_iload dX9_fewestForPairs_89 rfl (V_aload_n dX9_fewestForPairs_91 rfl rfl ?_)
                  refine V_getI dX9_fewestForPairs_92 fl_X9_51 (by first | assumption | exact ⟨by decide, rfl⟩) ?_
                  refine V_icmp_ge_t (tgt := 125) dX9_fewestForPairs_95 (by decide) (by rw [q3 I2 n1]; exact nI_le (Nat.le_refl _) (by omega)) ?_
                  exact out _ I2 b3 b' n1 n6 n7 nt nf
                · intro c' hc' ih2 hcc I2 b3 b' n1 n6 n7 nt nf
                  cases b'
                  · have hX2 : CoX I2 e K := hX.of (fun x y q1 q2 => n1 x y (by omega) (by omega) (by omega))
                    have hS2 : SX I2 e K := hS.of (fun b => ⟨n1 _ b (by omega) (by omega) (by omega), n1 _ b (by omega) (by omega) (by omega)⟩)
                    have hC2 : CVS I2 K (8 * K 0 0) := fun t ht h => by rw [n1 _ _ (by omega) (by omega) (by omega), n1 _ _ (by omega) (by omega) (by omega)]; exact hC t ht h
                    have hW2 : WKS I2 K 2 (2 ^ K 0 0) := fun s hs h => by rw [n1 _ _ (by omega) (by omega) (by omega)]; exact hWk s hs h
                    refine V_iload dX9_fewestForPairs_89 rfl (V_aload_n dX9_fewestForPairs_91 rfl rfl ?_)
                    refine V_getI dX9_fewestForPairs_92 fl_X9_51 (by first | assumption | exact ⟨by decide, rfl⟩) ?_
                    refine V_icmp_ge_f (tgt := 125) dX9_fewestForPairs_95 (by decide) (by rw [q3 I2 n1]; exact nI_ge hc' (by omega)) ?_
                    refine V_aload_n dX9_fewestForPairs_98 rfl rfl ?_
                    refine V_getI dX9_fewestForPairs_99 fl_X9_105 (by first | assumption | exact ⟨by decide, rfl⟩) ?_
                    refine V_if_ne_f (tgt := 125) dX9_fewestForPairs_102 (by decide) (by rw [n7]; rfl) ?_
                    refine V_aload_n dX9_fewestForPairs_105 rfl rfl (V_aload_n dX9_fewestForPairs_106 rfl rfl (V_aload_n dX9_fewestForPairs_107 rfl rfl (V_aload_n dX9_fewestForPairs_108 rfl rfl (V_iload dX9_fewestForPairs_109 rfl (V_iload dX9_fewestForPairs_111 rfl ?_)))))
                    refine V_cV4i (M' := M_X9_areEnough) (d' := 14) dX9_fewestForPairs_113 (Or.inl ml_X9_108) kb_X9_areEnough (by first | assumption | exact ⟨by decide, rfl⟩) (by first | decide | omega) (by simp [Value.category]) ⟨by decide, by decide⟩ ?_
                    refine sp_areEnough (by omega) he hB hX2 hS2 hC2 hU hW2 (by rw [n1 _ _ (by omega) (by omega) (by omega)]; exact h48) hc hc' (fun I3 b4 y1 => ⟨_, rfl, ?_⟩)
                    refine V_putZ dX9_fewestForPairs_116 fl_X9_105 (by first | assumption | exact ⟨by decide, rfl⟩) (b2i_01 _) ?_
                    refine V_iinc_6 (w := 1) dX9_fewestForPairs_119 (by decide) (by decide) rfl (V_goto (tgt := 89) dX9_fewestForPairs_122 (by decide) ?_)
                    rw [nI_1]
                    refine ih2 (by omega) _ b4 (enB K c c') (fun x y h1 h2 h3 => by rw [u2n (by omega), y1 x y h1 h2]; exact n1 x y h1 h2 h3) (by rw [u2n (by omega), y1 _ _ (by omega) (by omega)]; exact n6) (by rw [u2e]) (fun hen => ?_) (fun hen => ⟨(nf rfl).1, fun c2 w1 w2 => ?_⟩)
                    · exact dcd_t ⟨c, c', hcc, hc', hen⟩
                    · by_cases hq : c2 = c'
                      · subst hq; exact hen
                      · exact (nf rfl).2 c2 w1 (by omega)
                  · refine V_iload dX9_fewestForPairs_89 rfl (V_aload_n dX9_fewestForPairs_91 rfl rfl ?_)
                    refine V_getI dX9_fewestForPairs_92 fl_X9_51 (by first | assumption | exact ⟨by decide, rfl⟩) ?_
                    refine V_icmp_ge_f (tgt := 125) dX9_fewestForPairs_95 (by decide) (by rw [q3 I2 n1]; exact nI_ge hc' (by omega)) ?_
                    refine V_aload_n dX9_fewestForPairs_98 rfl rfl ?_
                    refine V_getI dX9_fewestForPairs_99 fl_X9_105 (by first | assumption | exact ⟨by decide, rfl⟩) ?_
                    refine V_if_ne_t (tgt := 125) dX9_fewestForPairs_102 (by decide) (by rw [n7]; decide) ?_
                    exact out _ I2 b3 true n1 n6 n7 nt (fun h => by cases h)
              exact key2 (c + 1) (by omega) (by omega) I1 b2 b g1 g6 g7 gt (fun hb => ⟨gf hb, fun c2 y1 y2 => absurd y1 (by omega)⟩)
          refine key1 0 (Nat.zero_le _) _ a2 false _ (fun x y h1 h2 h3 => by rw [u2n (by omega), u2n (by omega)]) (by rw [u2n (by omega), u2e]) (by rw [u2e]; rfl) (fun h => by cases h) (fun _ c1 c2 h => absurd h (by omega))
        · refine V_iload dX9_fewestForPairs_21 rfl (V_aload_n dX9_fewestForPairs_23 rfl rfl ?_)
          refine V_getI dX9_fewestForPairs_24 fl_X9_51 (by first | assumption | exact ⟨by decide, rfl⟩) ?_
          refine V_icmp_ge_t (tgt := 54) dX9_fewestForPairs_27 (by decide) (by rw [h3]; exact nI_le (Nat.le_refl _) (by omega)) ?_
          refine V_aload_n dX9_fewestForPairs_54 rfl rfl ?_
          refine V_getI dX9_fewestForPairs_55 fl_X9_33 (by first | assumption | exact ⟨by decide, rfl⟩) ?_
          refine V_if_ne_t (tgt := 131) dX9_fewestForPairs_58 (by decide) (by rw [h6]; decide) ?_
          exact fin ho I a2 _ rfl (fun _ _ _ _ _ => rfl) h6 h7
      · intro c hc ih g2
        by_cases hq : hm K 2 c = 2 ^ wW K 2 - 1
        · refine V_iload dX9_fewestForPairs_21 rfl (V_aload_n dX9_fewestForPairs_23 rfl rfl ?_)
          refine V_getI dX9_fewestForPairs_24 fl_X9_51 (by first | assumption | exact ⟨by decide, rfl⟩) ?_
          refine V_icmp_ge_f (tgt := 54) dX9_fewestForPairs_27 (by decide) (by rw [h3]; exact nI_ge hc (by omega)) ?_
          refine V_aload_n dX9_fewestForPairs_30 rfl rfl ?_
          refine V_getR dX9_fewestForPairs_31 fl_X9_25 (by first | assumption | exact ⟨by decide, rfl⟩) (by first | assumption | rfl) ?_
          refine V_sipush (v := 160) dX9_fewestForPairs_34 (by decide) (V_iload dX9_fewestForPairs_37 rfl (V_iadd dX9_fewestForPairs_39 ?_))
          refine V_lal dX9_fewestForPairs_40 (by first | assumption | exact ⟨by decide, rfl⟩) (show ix _ (80 * 2 + c) 240 from ⟨(by rw [show (160 : Int32) = nI 160 from rfl, nI_add]), by omega⟩) ?_
          refine V_lload_n dX9_fewestForPairs_41 rfl rfl (V_lcmp dX9_fewestForPairs_42 ?_)
          refine V_if_ne_f (tgt := 48) dX9_fewestForPairs_43 (by decide) (by rw [hU c hc, hq]; exact (lg_cmp_eq _ _).mpr rfl) ?_
          refine V_iconst (v := 1) dX9_fewestForPairs_46 (by decide) ?_
          refine V_ireturn dX9_fewestForPairs_47 rfl rfl rfl (by decide) (by decide) ?_
          have := Kk I a2 (fun _ _ _ _ _ => rfl) hT
          rw [fewV, if_neg hz, oneB, dcd_t ⟨c, hc, (hm_all K c).mp hq⟩] at this
          exact this
        · have hml := hm_lt K (k := 2) hB (by omega) c
          refine V_iload dX9_fewestForPairs_21 rfl (V_aload_n dX9_fewestForPairs_23 rfl rfl ?_)
          refine V_getI dX9_fewestForPairs_24 fl_X9_51 (by first | assumption | exact ⟨by decide, rfl⟩) ?_
          refine V_icmp_ge_f (tgt := 54) dX9_fewestForPairs_27 (by decide) (by rw [h3]; exact nI_ge hc (by omega)) ?_
          refine V_aload_n dX9_fewestForPairs_30 rfl rfl ?_
          refine V_getR dX9_fewestForPairs_31 fl_X9_25 (by first | assumption | exact ⟨by decide, rfl⟩) (by first | assumption | rfl) ?_
          refine V_sipush (v := 160) dX9_fewestForPairs_34 (by decide) (V_iload dX9_fewestForPairs_37 rfl (V_iadd dX9_fewestForPairs_39 ?_))
          refine V_lal dX9_fewestForPairs_40 (by first | assumption | exact ⟨by decide, rfl⟩) (show ix _ (80 * 2 + c) 240 from ⟨(by rw [show (160 : Int32) = nI 160 from rfl, nI_add]), by omega⟩) ?_
          refine V_lload_n dX9_fewestForPairs_41 rfl rfl (V_lcmp dX9_fewestForPairs_42 ?_)
          refine V_if_ne_t (tgt := 48) dX9_fewestForPairs_43 (by decide) (by rw [hU c hc]; exact fun z => hq ((fb_lN_inj (by omega) hall).mp ((lg_cmp_eq _ _).mp z))) ?_
          refine V_iinc_5 (w := 1) dX9_fewestForPairs_48 (by decide) (by decide) rfl (V_goto (tgt := 21) dX9_fewestForPairs_51 (by decide) ?_)
          rw [nI_1]
          refine ih (fun c' hc' => ?_)
          by_cases hcc : c' = c
          · subst hcc; exact hq
          · exact g2 c' (by omega)
    exact key 0 (Nat.zero_le _) (fun c' h => absurd h (by omega))
end
