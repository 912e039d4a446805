/-! The sickness: the days, what is asked -/
section
variable {E : En} {I : TI} {J : TJ} {co dr : Nat} {cc a1 a2 : Option Nat} {Post : PT} {e : Nat} {K : KT}
theorem sp_goOn {d had days : Nat} (hd : 5 ≤ d) (he : e = 4 ∨ e = 18) (hB : KB K) (hX : CoX I e K) (hh : had < 2 ^ K 0 0) (hy : days ≤ 14) (hC : SIC I K) (Kk : ∀ I', (∀ x y, x < 59 ∨ 63 < x → I' x y = I x y) → SIC I' K → (∀ s, s < 2 ^ K 0 0 → I' 60 s = nI (cold K had days s)) → Post none NC I' J (RR co dr cc a1 a2)) : Cal E d M_X7_goOn [.ref 59, .ref e, .int (nI had), .int (nI days)] NC I J (RR co dr cc a1 a2) Post := by
  have hP := hB.1.1
  have hpw : 2 ^ K 0 0 ≤ 1024 := Nat.pow_le_pow_right (n := 2) (by decide) hP
  refine Cal_of kn_X7_goOn rfl (Nat.le_of_ble_eq_true rfl) ?_
  have lp : ∀ q, q ≤ days → ∀ I1 : TI, (∀ x y, x < 59 ∨ 63 < x → I1 x y = I x y) → I1 59 5 = nI had → I1 59 6 = nI q → (∀ s, s < 2 ^ K 0 0 → I1 60 s = nI (cold K had q s)) → V E d M_X7_goOn Post 42 [some (.ref 59), some (.ref e), some (.int (nI had)), some (.int (nI days))] [] NC 0 0 I1 J (RR co dr cc a1 a2) := by
    refine loop_up _ ?_ ?_
    · intro I1 g1 g2 g3 g4
      refine V_aload_n dX7_goOn_42 rfl rfl ?_
      refine V_getI dX7_goOn_43 fl_X7_28 (by first | assumption | exact ⟨by decide, rfl⟩) ?_
      refine V_iload_n dX7_goOn_46 rfl rfl ?_
      refine V_icmp_ge_t (tgt := 68) dX7_goOn_47 (by decide) (by rw [g3]; exact nI_le (Nat.le_refl _) (by omega)) ?_
      refine V_return dX7_goOn_68 rfl rfl (by decide) (by decide) ?_
      exact Kk I1 g1 (Or.inr ⟨had, days, hh, hy, g2, g3, g4⟩) g4
    · intro q hq ih I1 g1 g2 g3 g4
      have hX1 : CoX I1 e K := hX.of (fun x y q1 q2 => g1 x y (by omega))
      refine V_aload_n dX7_goOn_42 rfl rfl ?_
      refine V_getI dX7_goOn_43 fl_X7_28 (by first | assumption | exact ⟨by decide, rfl⟩) ?_
      refine V_iload_n dX7_goOn_46 rfl rfl ?_
      refine V_icmp_ge_f (tgt := 68) dX7_goOn_47 (by decide) (by rw [g3]; exact nI_ge hq (by omega)) ?_
      refine V_aload_n dX7_goOn_50 rfl rfl (V_aload_n dX7_goOn_51 rfl rfl ?_)
      refine V_cV1v (M' := M_X7_passDay) (d' := 4) dX7_goOn_52 (Or.inl ml_X7_38) kb_X7_passDay (by first | assumption | exact ⟨by decide, rfl⟩) (by first | decide | omega) (by simp [Value.category]) ⟨by decide, by decide⟩ ?_
      refine sp_passDay (by omega) he hB hX1 g4 (cold_sum K hh q) (fun I2 m1 m2 => ⟨rfl, ?_⟩)
      refine V_aload_n dX7_goOn_55 rfl rfl (V_dup dX7_goOn_56 rfl ?_)
      refine V_getI dX7_goOn_57 fl_X7_28 (by first | assumption | exact ⟨by decide, rfl⟩) ?_
      refine V_iconst (v := 1) dX7_goOn_60 (by decide) (V_iadd dX7_goOn_61 ?_)
      refine V_putI dX7_goOn_62 fl_X7_28 (by first | assumption | exact ⟨by decide, rfl⟩) ?_
      refine V_goto (tgt := 42) dX7_goOn_65 (by decide) ?_
      rw [m1 59 6 (by omega) (by omega) (by omega) (by omega) (by omega), g3, nI_1]
      refine ih _ (fun x y h => ?_) ?_ (by rw [u2e]) (fun s hs => ?_)
      · rw [u2n (by omega), m1 x y (by omega) (by omega) (by omega) (by omega) (by omega)]; exact g1 x y h
      · rw [u2n (by omega), m1 _ _ (by omega) (by omega) (by omega) (by omega) (by omega)]; exact g2
      · rw [u2n (by omega), m2 s hs]; rfl
  have anew : V E d M_X7_goOn Post 16 [some (.ref 59), some (.ref e), some (.int (nI had)), some (.int (nI days))] [] NC 0 0 I J (RR co dr cc a1 a2) := by
    refine V_aload_n dX7_goOn_16 rfl rfl ?_
    refine V_getR dX7_goOn_17 fl_X7_9 (by first | assumption | exact ⟨by decide, rfl⟩) (by first | assumption | rfl) ?_
    refine V_iconst (v := 0) dX7_goOn_20 (by decide) ?_
    refine V_cS2v (M' := M_J7_fill_53178) (d' := 1) dX7_goOn_21 (Or.inl ml_X7_31) kb_J7_fill_53178 (by first | decide | omega) (by simp [Value.category]) ⟨by decide, by decide⟩ ?_
    refine sp_fill (k := 60) (len := 1024) ⟨by decide, rfl⟩ (fun I1 g1 => ⟨rfl, ?_⟩)
    refine V_aload_n dX7_goOn_24 rfl rfl ?_
    refine V_getR dX7_goOn_25 fl_X7_9 (by first | assumption | exact ⟨by decide, rfl⟩) (by first | assumption | rfl) ?_
    refine V_iload_n dX7_goOn_28 rfl rfl (V_ldc dX7_goOn_29 ct_X7_37 ?_)
    refine V_ias dX7_goOn_31 (by first | assumption | exact ⟨by decide, rfl⟩) (show ix _ had 1024 from ⟨rfl, by omega⟩) ?_
    refine V_aload_n dX7_goOn_32 rfl rfl (V_iload_n dX7_goOn_33 rfl rfl ?_)
    refine V_putI dX7_goOn_34 fl_X7_24 (by first | assumption | exact ⟨by decide, rfl⟩) ?_
    refine V_aload_n dX7_goOn_37 rfl rfl (V_iconst (v := 0) dX7_goOn_38 (by decide) ?_)
    refine V_putI dX7_goOn_39 fl_X7_28 (by first | assumption | exact ⟨by decide, rfl⟩) ?_
    refine lp 0 (Nat.zero_le _) _ (fun x y h => ?_) ?_ ?_ (fun s hs => ?_)
    · rw [u2n (by omega), u2n (by omega), u2n (by omega), g1, if_neg (by omega)]
    · rw [u2n (by omega), u2e]
    · rw [u2e]; rfl
    · rw [u2n (by omega), u2n (by omega)]
      by_cases hsh : s = had
      · subst hsh; rw [u2e]; show _ = nI (if s = s then 1000000 else 0); rw [if_pos rfl]; rfl
      · rw [u2n (by omega), g1, if_pos ⟨rfl, by omega⟩]; show _ = nI (if s = had then 1000000 else 0); rw [if_neg hsh]; rfl
  rcases hC with h5 | ⟨h, dd, h1, h2, h5, h6, h7⟩
  · refine V_iload_n dX7_goOn_0 rfl rfl (V_aload_n dX7_goOn_1 rfl rfl ?_)
    refine V_getI dX7_goOn_2 fl_X7_24 (by first | assumption | exact ⟨by decide, rfl⟩) ?_
    refine V_icmp_ne_t (tgt := 16) dX7_goOn_5 (by decide) (by rw [h5]; exact nI_ne4 (by omega)) ?_
    exact anew
  · by_cases heq : had = h
    · subst heq
      by_cases hlt : days < dd
      · refine V_iload_n dX7_goOn_0 rfl rfl (V_aload_n dX7_goOn_1 rfl rfl ?_)
        refine V_getI dX7_goOn_2 fl_X7_24 (by first | assumption | exact ⟨by decide, rfl⟩) ?_
        refine V_icmp_ne_f (tgt := 16) dX7_goOn_5 (by decide) (by rw [h5]) ?_
        refine V_iload_n dX7_goOn_8 rfl rfl (V_aload_n dX7_goOn_9 rfl rfl ?_)
        refine V_getI dX7_goOn_10 fl_X7_28 (by first | assumption | exact ⟨by decide, rfl⟩) ?_
        refine V_icmp_ge_f (tgt := 42) dX7_goOn_13 (by decide) (by rw [h6]; exact nI_ge hlt (by omega)) ?_
        exact anew
      · refine V_iload_n dX7_goOn_0 rfl rfl (V_aload_n dX7_goOn_1 rfl rfl ?_)
        refine V_getI dX7_goOn_2 fl_X7_24 (by first | assumption | exact ⟨by decide, rfl⟩) ?_
        refine V_icmp_ne_f (tgt := 16) dX7_goOn_5 (by decide) (by rw [h5]) ?_
        refine V_iload_n dX7_goOn_8 rfl rfl (V_aload_n dX7_goOn_9 rfl rfl ?_)
        refine V_getI dX7_goOn_10 fl_X7_28 (by first | assumption | exact ⟨by decide, rfl⟩) ?_
        refine V_icmp_ge_t (tgt := 42) dX7_goOn_13 (by decide) (by rw [h6]; exact nI_le (by omega) (by omega)) ?_
        exact lp dd (by omega) I (fun _ _ _ => rfl) h5 h6 h7
    · refine V_iload_n dX7_goOn_0 rfl rfl (V_aload_n dX7_goOn_1 rfl rfl ?_)
      refine V_getI dX7_goOn_2 fl_X7_24 (by first | assumption | exact ⟨by decide, rfl⟩) ?_
      refine V_icmp_ne_t (tgt := 16) dX7_goOn_5 (by decide) (by rw [h5]; exact fun z => heq ((nI_eq (by omega) (by omega)).mp z)) ?_
      exact anew
theorem sp_timesIll {d p : Nat} {T : Nat → Nat} (hd : 2 ≤ d) (he : e = 4 ∨ e = 18) (hB : KB K) (hX : CoX I e K) (hp : p < 10) (hT : ∀ s, s < 2 ^ K 0 0 → I 60 s = nI (T s)) (Kk : Post (some (.int (nI (fb_sm (illS K T p) (2 ^ K 0 0))))) NC I J (RR co dr cc a1 a2)) : Cal E d M_X7_timesIll [.ref 59, .ref e, .int (nI p)] NC I J (RR co dr cc a1 a2) Post := by
  have hP := hB.1.1
  have hpw : 2 ^ K 0 0 ≤ 1024 := Nat.pow_le_pow_right (n := 2) (by decide) hP
  obtain ⟨_, _, _, _, _, _, _, _, _, _, _, _, _, _, _, _, _, _, _, _, _, _, _⟩ := f_co (co := co) (dr := dr) (cc := cc) (a1 := a1) (a2 := a2) (he)
  refine Cal_of kn_X7_timesIll rfl (Nat.le_of_ble_eq_true rfl) ?_
  refine V_iconst (v := 0) dX7_timesIll_0 (by decide) (V_istore_3 dX7_timesIll_1 (by decide) rfl (V_iconst (v := 0) dX7_timesIll_2 (by decide) (V_istore_4 dX7_timesIll_3 (by decide) rfl ?_)))
  have key : ∀ s, s ≤ 2 ^ K 0 0 → V E d M_X7_timesIll Post 5 [some (.ref 59), some (.ref e), some (.int (nI p)), some (.int (nI (fb_sm (illS K T p) s))), some (.int (nI s))] [] NC 0 0 I J (RR co dr cc a1 a2) := by
    refine loop_up _ ?_ ?_
    · refine V_iload dX7_timesIll_5 rfl (V_iconst (v := 1) dX7_timesIll_7 (by decide) (V_aload_n dX7_timesIll_8 rfl rfl ?_))
      refine V_getI dX7_timesIll_9 fl_X7_42 (by first | assumption | exact ⟨by decide, rfl⟩) ?_
      refine V_ishl dX7_timesIll_12 ?_
      refine V_icmp_ge_t (tgt := 41) dX7_timesIll_13 (by decide) (by rw [hX.1.1, shl1 (by omega)]; exact nI_le (Nat.le_refl _) (by omega)) ?_
      refine V_iload_n dX7_timesIll_41 rfl rfl ?_
      refine V_ireturn dX7_timesIll_42 rfl rfl rfl (by decide) (by decide) ?_
      exact Kk
    · intro s hs ih
      refine V_iload dX7_timesIll_5 rfl (V_iconst (v := 1) dX7_timesIll_7 (by decide) (V_aload_n dX7_timesIll_8 rfl rfl ?_))
      refine V_getI dX7_timesIll_9 fl_X7_42 (by first | assumption | exact ⟨by decide, rfl⟩) ?_
      refine V_ishl dX7_timesIll_12 ?_
      refine V_icmp_ge_f (tgt := 41) dX7_timesIll_13 (by decide) (by rw [hX.1.1, shl1 (by omega)]; exact nI_ge hs (by omega)) ?_
      refine V_iload dX7_timesIll_16 rfl (V_iload_n dX7_timesIll_18 rfl rfl ?_)
      refine V_cS2i (M' := M_X10_has) (d' := 1) dX7_timesIll_19 (Or.inr ⟨_, ml_X7_63⟩) kb_X10_has (by first | decide | omega) (by simp [Value.category]) ⟨by decide, by decide⟩ ?_
      refine sp_has (by omega) (by omega) ⟨_, rfl, ?_⟩
      cases hv : s.testBit p
      · refine V_if_eq_t (tgt := 35) dX7_timesIll_22 (by decide) (rfl) ?_
        refine V_iinc_4 (w := 1) dX7_timesIll_35 (by decide) (by decide) rfl (V_goto (tgt := 5) dX7_timesIll_38 (by decide) ?_)
        rw [nI_1]
        rw [fb_sm_succ, illS, hv] at ih
        exact ih
      · refine V_if_eq_f (tgt := 35) dX7_timesIll_22 (by decide) (by decide) ?_
        refine V_iload_n dX7_timesIll_25 rfl rfl (V_aload_n dX7_timesIll_26 rfl rfl ?_)
        refine V_getR dX7_timesIll_27 fl_X7_9 (by first | assumption | exact ⟨by decide, rfl⟩) (by first | assumption | rfl) ?_
        refine V_iload dX7_timesIll_30 rfl ?_
        refine V_ial dX7_timesIll_32 (by first | assumption | exact ⟨by decide, rfl⟩) (show ix _ s 1024 from ⟨rfl, by omega⟩) ?_
        refine V_iadd dX7_timesIll_33 (V_istore_3 dX7_timesIll_34 (by decide) rfl (V_iinc_4 (w := 1) dX7_timesIll_35 (by decide) (by decide) rfl (V_goto (tgt := 5) dX7_timesIll_38 (by decide) ?_)))
        rw [nI_1, hT s hs, nI_add]
        rw [fb_sm_succ, show illS K T p s = T s by unfold illS; rw [hv]; rfl] at ih
        exact ih
  exact key 0 (Nat.zero_le _)
theorem sp_timesMet {d : Nat} {T : Nat → Nat} (hd : 14 ≤ d) (he : e = 4 ∨ e = 18) (hB : KB K) (hX : CoX I e K) (hS : SX I e K) (hN : ANS I K) (hT : ∀ s, s < 2 ^ K 0 0 → I 60 s = nI (T s)) (hTl : ∀ s, s < 2 ^ K 0 0 → T s ≤ 1000000) (Kk : ∀ I' b1, (∀ x y, x ≠ 49 → x ≠ 50 → x ≠ 51 → I' x y = I x y) → ANS I' K → Post (some (.int (nI (fb_sm (metS K T) (2 ^ K 0 0))))) NC I' J (RR co dr cc b1 a2)) : Cal E d M_X7_timesMet [.ref 59, .ref e, .ref 48] NC I J (RR co dr cc a1 a2) Post := by
  have hP := hB.1.1
  have hpw : 2 ^ K 0 0 ≤ 1024 := Nat.pow_le_pow_right (n := 2) (by decide) hP
  obtain ⟨_, _, _, _, _, _, _, _, _, _, _, _, _, _, _, _, _, _, _, _, _, _, _⟩ := f_co (co := co) (dr := dr) (cc := cc) (a1 := a1) (a2 := a2) (he)
  refine Cal_of kn_X7_timesMet rfl (Nat.le_of_ble_eq_true rfl) ?_
  refine V_iconst (v := 0) dX7_timesMet_0 (by decide) (V_istore_3 dX7_timesMet_1 (by decide) rfl (V_iconst (v := 0) dX7_timesMet_2 (by decide) (V_istore_4 dX7_timesMet_3 (by decide) rfl ?_)))
  have key : ∀ s, s ≤ 2 ^ K 0 0 → ∀ (I1 : TI) (b1 : Option Nat), (∀ x y, x ≠ 49 → x ≠ 50 → x ≠ 51 → I1 x y = I x y) → ANS I1 K → V E d M_X7_timesMet Post 5 [some (.ref 59), some (.ref e), some (.ref 48), some (.int (nI (fb_sm (metS K T) s))), some (.int (nI s))] [] NC 0 0 I1 J (RR co dr cc b1 a2) := by
    refine loop_up _ ?_ ?_
    · intro I1 b1 g1 g2
      have hX1 : CoX I1 e K := hX.of (fun x y q1 q2 => g1 x y (by omega) (by omega) (by omega))
      refine V_iload dX7_timesMet_5 rfl (V_iconst (v := 1) dX7_timesMet_7 (by decide) (V_aload_n dX7_timesMet_8 rfl rfl ?_))
      refine V_getI dX7_timesMet_9 fl_X7_42 (by first | assumption | exact ⟨by decide, rfl⟩) ?_
      refine V_ishl dX7_timesMet_12 ?_
      refine V_icmp_ge_t (tgt := 52) dX7_timesMet_13 (by decide) (by rw [hX1.1.1, shl1 (by omega)]; exact nI_le (Nat.le_refl _) (by omega)) ?_
      refine V_iload_n dX7_timesMet_52 rfl rfl ?_
      refine V_ireturn dX7_timesMet_53 rfl rfl rfl (by decide) (by decide) ?_
      exact Kk I1 b1 g1 g2
    · intro s hs ih I1 b1 g1 g2
      have hX1 : CoX I1 e K := hX.of (fun x y q1 q2 => g1 x y (by omega) (by omega) (by omega))
      have hS1 : SX I1 e K := hS.of (fun b => ⟨g1 _ b (by omega) (by omega) (by omega), g1 _ b (by omega) (by omega) (by omega)⟩)
      have t60 : ∀ I2 : TI, (∀ x y, x ≠ 49 → x ≠ 50 → x ≠ 51 → I2 x y = I x y) → I2 60 s = nI (T s) := fun I2 h => by rw [h _ _ (by omega) (by omega) (by omega)]; exact hT s hs
      have hl := hTl s hs
      by_cases h0 : T s = 0
      · refine V_iload dX7_timesMet_5 rfl (V_iconst (v := 1) dX7_timesMet_7 (by decide) (V_aload_n dX7_timesMet_8 rfl rfl ?_))
        refine V_getI dX7_timesMet_9 fl_X7_42 (by first | assumption | exact ⟨by decide, rfl⟩) ?_
        refine V_ishl dX7_timesMet_12 ?_
        refine V_icmp_ge_f (tgt := 52) dX7_timesMet_13 (by decide) (by rw [hX1.1.1, shl1 (by omega)]; exact nI_ge hs (by omega)) ?_
        refine V_aload_n dX7_timesMet_16 rfl rfl ?_
        refine V_getR dX7_timesMet_17 fl_X7_9 (by first | assumption | exact ⟨by decide, rfl⟩) (by first | assumption | rfl) ?_
        refine V_iload dX7_timesMet_20 rfl ?_
        refine V_ial dX7_timesMet_22 (by first | assumption | exact ⟨by decide, rfl⟩) (show ix _ s 1024 from ⟨rfl, by omega⟩) ?_
        refine V_if_le_t (tgt := 46) dX7_timesMet_23 (by decide) (by rw [t60 I1 g1, h0]; decide) ?_
        refine V_iinc_4 (w := 1) dX7_timesMet_46 (by decide) (by decide) rfl (V_goto (tgt := 5) dX7_timesMet_49 (by decide) ?_)
        rw [nI_1]
        have := ih I1 b1 g1 g2
        rw [fb_sm_succ, show metS K T s = 0 by unfold metS; rw [h0]; split <;> rfl] at this
        exact this
      · refine V_iload dX7_timesMet_5 rfl (V_iconst (v := 1) dX7_timesMet_7 (by decide) (V_aload_n dX7_timesMet_8 rfl rfl ?_))
        refine V_getI dX7_timesMet_9 fl_X7_42 (by first | assumption | exact ⟨by decide, rfl⟩) ?_
        refine V_ishl dX7_timesMet_12 ?_
        refine V_icmp_ge_f (tgt := 52) dX7_timesMet_13 (by decide) (by rw [hX1.1.1, shl1 (by omega)]; exact nI_ge hs (by omega)) ?_
        refine V_aload_n dX7_timesMet_16 rfl rfl ?_
        refine V_getR dX7_timesMet_17 fl_X7_9 (by first | assumption | exact ⟨by decide, rfl⟩) (by first | assumption | rfl) ?_
        refine V_iload dX7_timesMet_20 rfl ?_
        refine V_ial dX7_timesMet_22 (by first | assumption | exact ⟨by decide, rfl⟩) (show ix _ s 1024 from ⟨rfl, by omega⟩) ?_
        refine V_if_le_f (tgt := 46) dX7_timesMet_23 (by decide) (by rw [t60 I1 g1, show (0 : Int32) = nI 0 from rfl, lit_le (by omega) (by omega)]; omega) ?_
        refine V_aload_n dX7_timesMet_26 rfl rfl (V_aload_n dX7_timesMet_27 rfl rfl (V_iload dX7_timesMet_28 rfl ?_))
        refine V_cV2i (M' := M_X0_isMet) (d' := 13) dX7_timesMet_30 (Or.inl ml_X7_80) kb_X0_isMet (by first | assumption | exact ⟨by decide, rfl⟩) (by first | decide | omega) (by simp [Value.category]) ⟨by decide, by decide⟩ ?_
        refine sp_isMet (by omega) he hB hX1 hS1 g2 hs (fun I2 c1 m1 m2 => ⟨_, rfl, ?_⟩)
        have m12 : ∀ x y, x ≠ 49 → x ≠ 50 → x ≠ 51 → I2 x y = I x y := fun x y h1 h2 h3 => by rw [m1 x y h1 h2 h3]; exact g1 x y h1 h2 h3
        have := ih I2 c1 m12 m2
        cases hm : metB K s 0
        · refine V_if_eq_t (tgt := 46) dX7_timesMet_33 (by decide) (rfl) ?_
          refine V_iinc_4 (w := 1) dX7_timesMet_46 (by decide) (by decide) rfl (V_goto (tgt := 5) dX7_timesMet_49 (by decide) ?_)
          rw [nI_1]
          rw [fb_sm_succ, metS, hm] at this
          exact this
        · refine V_if_eq_f (tgt := 46) dX7_timesMet_33 (by decide) (by decide) ?_
          refine V_iload_n dX7_timesMet_36 rfl rfl (V_aload_n dX7_timesMet_37 rfl rfl ?_)
          refine V_getR dX7_timesMet_38 fl_X7_9 (by first | assumption | exact ⟨by decide, rfl⟩) (by first | assumption | rfl) ?_
          refine V_iload dX7_timesMet_41 rfl ?_
          refine V_ial dX7_timesMet_43 (by first | assumption | exact ⟨by decide, rfl⟩) (show ix _ s 1024 from ⟨rfl, by omega⟩) ?_
          refine V_iadd dX7_timesMet_44 (V_istore_3 dX7_timesMet_45 (by decide) rfl (V_iinc_4 (w := 1) dX7_timesMet_46 (by decide) (by decide) rfl (V_goto (tgt := 5) dX7_timesMet_49 (by decide) ?_)))
          rw [nI_1, t60 I2 m12, nI_add]
          rw [fb_sm_succ, show metS K T s = T s by unfold metS; rw [hm]; rfl] at this
          exact this
  exact key 0 (Nat.zero_le _) I a1 (fun _ _ _ _ _ => rfl) hN
theorem sp_likeliest {d : Nat} {T : Nat → Nat} (he : e = 4 ∨ e = 18) (hB : KB K) (hX : CoX I e K) (hT : ∀ s, s < 2 ^ K 0 0 → I 60 s = nI (T s)) (hTl : ∀ s, s < 2 ^ K 0 0 → T s ≤ 1000000) (Kk : Post (some (.int (nI (lik T (2 ^ K 0 0))))) NC I J (RR co dr cc a1 a2)) : Cal E d M_X7_likeliest [.ref 59, .ref e] NC I J (RR co dr cc a1 a2) Post := by
  have hP := hB.1.1
  have hpw : 2 ^ K 0 0 ≤ 1024 := Nat.pow_le_pow_right (n := 2) (by decide) hP
  obtain ⟨_, _, _, _, _, _, _, _, _, _, _, _, _, _, _, _, _, _, _, _, _, _, _⟩ := f_co (co := co) (dr := dr) (cc := cc) (a1 := a1) (a2 := a2) (he)
  refine Cal_of kn_X7_likeliest rfl (Nat.le_of_ble_eq_true rfl) ?_
  refine V_iconst (v := 0) dX7_likeliest_0 (by decide) (V_istore_2 dX7_likeliest_1 (by decide) rfl (V_iconst (v := 1) dX7_likeliest_2 (by decide) (V_istore_3 dX7_likeliest_3 (by decide) rfl ?_)))
  have key : ∀ s, s ≤ 2 ^ K 0 0 → 1 ≤ s → V E d M_X7_likeliest Post 4 [some (.ref 59), some (.ref e), some (.int (nI (lik T s))), some (.int (nI s))] [] NC 0 0 I J (RR co dr cc a1 a2) := by
    refine loop_up _ ?_ ?_
    · intro _
      refine V_iload_n dX7_likeliest_4 rfl rfl (V_iconst (v := 1) dX7_likeliest_5 (by decide) (V_aload_n dX7_likeliest_6 rfl rfl ?_))
      refine V_getI dX7_likeliest_7 fl_X7_42 (by first | assumption | exact ⟨by decide, rfl⟩) ?_
      refine V_ishl dX7_likeliest_10 ?_
      refine V_icmp_ge_t (tgt := 37) dX7_likeliest_11 (by decide) (by rw [hX.1.1, shl1 (by omega)]; exact nI_le (Nat.le_refl _) (by omega)) ?_
      refine V_iload_n dX7_likeliest_37 rfl rfl ?_
      refine V_ireturn dX7_likeliest_38 rfl rfl rfl (by decide) (by decide) ?_
      exact Kk
    · intro s hs ih h1
      have hll := lik_lt' T (s := s) (by omega)
      have q1 := hTl s hs
      have q2 := hTl (lik T s) (by omega)
      have ih2 := ih (by omega)
      by_cases hlt : T (lik T s) < T s
      · refine V_iload_n dX7_likeliest_4 rfl rfl (V_iconst (v := 1) dX7_likeliest_5 (by decide) (V_aload_n dX7_likeliest_6 rfl rfl ?_))
        refine V_getI dX7_likeliest_7 fl_X7_42 (by first | assumption | exact ⟨by decide, rfl⟩) ?_
        refine V_ishl dX7_likeliest_10 ?_
        refine V_icmp_ge_f (tgt := 37) dX7_likeliest_11 (by decide) (by rw [hX.1.1, shl1 (by omega)]; exact nI_ge hs (by omega)) ?_
        refine V_aload_n dX7_likeliest_14 rfl rfl ?_
        refine V_getR dX7_likeliest_15 fl_X7_9 (by first | assumption | exact ⟨by decide, rfl⟩) (by first | assumption | rfl) ?_
        refine V_iload_n dX7_likeliest_18 rfl rfl ?_
        refine V_ial dX7_likeliest_19 (by first | assumption | exact ⟨by decide, rfl⟩) (show ix _ s 1024 from ⟨rfl, by omega⟩) ?_
        refine V_aload_n dX7_likeliest_20 rfl rfl ?_
        refine V_getR dX7_likeliest_21 fl_X7_9 (by first | assumption | exact ⟨by decide, rfl⟩) (by first | assumption | rfl) ?_
        refine V_iload_n dX7_likeliest_24 rfl rfl ?_
        refine V_ial dX7_likeliest_25 (by first | assumption | exact ⟨by decide, rfl⟩) (show ix _ (lik T s) 1024 from ⟨rfl, by omega⟩) ?_
        refine V_icmp_le_f (tgt := 31) dX7_likeliest_26 (by decide) (by rw [hT s hs, hT _ (by omega)]; exact nI_ge hlt (by omega)) ?_
        refine V_iload_n dX7_likeliest_29 rfl rfl (V_istore_2 dX7_likeliest_30 (by decide) rfl (V_iinc_3 (w := 1) dX7_likeliest_31 (by decide) (by decide) rfl (V_goto (tgt := 4) dX7_likeliest_34 (by decide) ?_)))
        rw [nI_1]
        rw [lik, if_pos hlt] at ih2
        exact ih2
      · refine V_iload_n dX7_likeliest_4 rfl rfl (V_iconst (v := 1) dX7_likeliest_5 (by decide) (V_aload_n dX7_likeliest_6 rfl rfl ?_))
        refine V_getI dX7_likeliest_7 fl_X7_42 (by first | assumption | exact ⟨by decide, rfl⟩) ?_
        refine V_ishl dX7_likeliest_10 ?_
        refine V_icmp_ge_f (tgt := 37) dX7_likeliest_11 (by decide) (by rw [hX.1.1, shl1 (by omega)]; exact nI_ge hs (by omega)) ?_
        refine V_aload_n dX7_likeliest_14 rfl rfl ?_
        refine V_getR dX7_likeliest_15 fl_X7_9 (by first | assumption | exact ⟨by decide, rfl⟩) (by first | assumption | rfl) ?_
        refine V_iload_n dX7_likeliest_18 rfl rfl ?_
        refine V_ial dX7_likeliest_19 (by first | assumption | exact ⟨by decide, rfl⟩) (show ix _ s 1024 from ⟨rfl, by omega⟩) ?_
        refine V_aload_n dX7_likeliest_20 rfl rfl ?_
        refine V_getR dX7_likeliest_21 fl_X7_9 (by first | assumption | exact ⟨by decide, rfl⟩) (by first | assumption | rfl) ?_
        refine V_iload_n dX7_likeliest_24 rfl rfl ?_
        refine V_ial dX7_likeliest_25 (by first | assumption | exact ⟨by decide, rfl⟩) (show ix _ (lik T s) 1024 from ⟨rfl, by omega⟩) ?_
        refine V_icmp_le_t (tgt := 31) dX7_likeliest_26 (by decide) (by rw [hT s hs, hT _ (by omega)]; exact nI_le (by omega) (by omega)) ?_
        refine V_iinc_3 (w := 1) dX7_likeliest_31 (by decide) (by decide) rfl (V_goto (tgt := 4) dX7_likeliest_34 (by decide) ?_)
        rw [nI_1]
        rw [lik, if_neg hlt] at ih2
        exact ih2
  have h1 : lik T 1 = 0 := by show (if T 0 < T 0 then 0 else 0) = 0; split <;> rfl
  have := key 1 Nat.one_le_two_pow (Nat.le_refl _)
  rw [h1] at this
  exact this
theorem sp_siForget {d : Nat} (Kk : ∀ I', (∀ x y, (x ≠ 59 ∨ y ≠ 5) → I' x y = I x y) → SIC I' K → Post none NC I' J (RR co dr cc a1 a2)) : Cal E d M_X7_forget [.ref 59] NC I J (RR co dr cc a1 a2) Post := by
  refine Cal_of kn_X7_forget rfl (Nat.le_of_ble_eq_true rfl) ?_
  refine V_aload_n dX7_forget_0 rfl rfl (V_bipush (v := (-4)) dX7_forget_1 (by decide) ?_)
  refine V_putI dX7_forget_3 fl_X7_24 (by first | assumption | exact ⟨by decide, rfl⟩) ?_
  refine V_return dX7_forget_6 rfl rfl (by decide) (by decide) ?_
  exact Kk _ (fun x y h => by rw [u2n h]) (Or.inl (by rw [u2e]))
theorem sp_unForget {d : Nat} (Kk : ∀ I', (∀ x y, (x ≠ 53 ∨ (y ≠ 5 ∧ y ≠ 6)) → I' x y = I x y) → UNS I' J K → TWO I' K → Post none NC I' J (RR co dr cc a1 a2)) : Cal E d M_X9_forget [.ref 53] NC I J (RR co dr cc a1 a2) Post := by
  refine Cal_of kn_X9_forget rfl (Nat.le_of_ble_eq_true rfl) ?_
  refine V_aload_n dX9_forget_0 rfl rfl (V_iconst (v := 0) dX9_forget_1 (by decide) ?_)
  refine V_putI dX9_forget_2 fl_X9_29 (by first | assumption | exact ⟨by decide, rfl⟩) ?_
  refine V_aload_n dX9_forget_5 rfl rfl (V_iconst (v := 0) dX9_forget_6 (by decide) ?_)
  refine V_putZ dX9_forget_7 fl_X9_33 (by first | assumption | exact ⟨by decide, rfl⟩) (by first | exact Or.inl rfl | exact Or.inr rfl) ?_
  refine V_return dX9_forget_10 rfl rfl (by decide) (by decide) ?_
  refine Kk _ (fun x y h => by rw [u2n (by omega), u2n (by omega)]) ⟨0, by omega, by rw [u2n (by omega), u2e]; rfl, fun h => by simp at h, fun h => by simp at h⟩ (Or.inl (by rw [u2e]))
theorem sp_abForget {d : Nat} (hd : 2 ≤ d) (hP : K 0 0 ≤ 10) (Kk : ∀ I', (∀ x y, x ≠ 49 → I' x y = I x y) → ANS I' K → Post none NC I' J (RR co dr cc a1 a2)) : Cal E d M_X0_forget [.ref 48] NC I J (RR co dr cc a1 a2) Post := by
  have hpw : 2 ^ K 0 0 ≤ 1024 := Nat.pow_le_pow_right (n := 2) (by decide) hP
  refine Cal_of kn_X0_forget rfl (Nat.le_of_ble_eq_true rfl) ?_
  refine V_aload_n dX0_forget_0 rfl rfl ?_
  refine V_getR dX0_forget_1 fl_X0_9 (by first | assumption | exact ⟨by decide, rfl⟩) (by first | assumption | rfl) ?_
  refine V_iconst (v := 0) dX0_forget_4 (by decide) ?_
  refine V_cS2v (M' := M_J7_fill_53178) (d' := 1) dX0_forget_5 (Or.inl ml_X0_25) kb_J7_fill_53178 (by first | decide | omega) (by simp [Value.category]) ⟨by decide, by decide⟩ ?_
  refine sp_fill (k := 49) (len := 1024) ⟨by decide, rfl⟩ (fun I1 g1 => ⟨rfl, ?_⟩)
  refine V_return dX0_forget_8 rfl rfl (by decide) (by decide) ?_
  exact Kk I1 (fun x y h => by rw [g1, if_neg (fun z => h z.1)]) (fun s hs => Or.inl (by rw [g1, if_pos ⟨rfl, by omega⟩]))
end
