/-! Bounds kept by items; Company.clear; Reader.firstFault -/
theorem KB_K0 : KB K0 := by
  refine ⟨by simp [K0], fun p hp => by simp [K0], fun p => by simp [K0], fun i hi => ?_, fun i => by simp [K0], fun s hs => ?_, fun j => by simp [K0]⟩
  · simp [K0] at hi
  · simp [K0] at hs
theorem KB_aPl {K : KT} (hB : KB K) {a b : Nat} (h : K 0 0 < 10 ∧ a ≤ 99 ∧ b ≤ 15) : KB (aPl K a b) := by
  obtain ⟨⟨b0, b1, b2, b3, b4, b5, b6, b7, b8⟩, p12, p3, qq, ow, sc, cn⟩ := hB
  refine ⟨⟨?_, ?_, ?_, ?_, ?_, ?_, ?_, ?_, ?_⟩, fun p hp => ?_, fun p => ?_, fun i hi => ?_, fun i => ?_, fun s hs => ?_, fun j => ?_⟩
  · simp [up2, aPl]; omega
  · simpa [up2, aPl] using b1
  · simpa [up2, aPl] using b2
  · simpa [up2, aPl] using b3
  · simpa [up2, aPl] using b4
  · simpa [up2, aPl] using b5
  · simpa [up2, aPl] using b6
  · simpa [up2, aPl] using b7
  · simpa [up2, aPl] using b8
  · have hp : p < K 0 0 + 1 := by simpa [up2, aPl] using hp
    by_cases he : p = K 0 0
    · simp [up2, aPl, he]; omega
    · simpa [up2, aPl, he] using p12 p (by omega)
  · simpa [up2, aPl] using p3 p
  · simpa [up2, aPl] using qq i (by simpa [up2, aPl] using hi)
  · have := ow i
    simp [up2, aPl]; omega
  · simpa [up2, aPl] using sc s (by simpa [up2, aPl] using hs)
  · simpa [up2, aPl] using cn j
theorem KB_aPa {K : KT} (hB : KB K) {a b f d : Nat} (hf : f ≤ 999) (h : K 0 1 < 8 ∧ a ≤ 99 ∧ b ≤ 15 ∧ 1 ≤ f ∧ d ≤ 1) : KB (aPa K a b f d) := by
  obtain ⟨⟨b0, b1, b2, b3, b4, b5, b6, b7, b8⟩, p12, p3, qq, ow, sc, cn⟩ := hB
  have hpow : 2 ^ K 0 1 ≤ 2 ^ (K 0 1 + 1) := Nat.pow_le_pow_right (by decide) (by omega)
  refine ⟨⟨?_, ?_, ?_, ?_, ?_, ?_, ?_, ?_, ?_⟩, fun p hp => ?_, fun p => ?_, fun i hi => ?_, fun i => ?_, fun s hs => ?_, fun j => ?_⟩
  · simpa [up2, aPa] using b0
  · simp [up2, aPa]; omega
  · simpa [up2, aPa] using b2
  · simpa [up2, aPa] using b3
  · simpa [up2, aPa] using b4
  · simpa [up2, aPa] using b5
  · simpa [up2, aPa] using b6
  · simpa [up2, aPa] using b7
  · simpa [up2, aPa] using b8
  · simpa [up2, aPa] using p12 p (by simpa [up2, aPa] using hp)
  · have := p3 p
    simp [up2, aPa]; omega
  · have hi : i < K 0 1 + 1 := by simpa [up2, aPa] using hi
    by_cases he : i = K 0 1
    · simp [up2, aPa, he]; omega
    · simpa [up2, aPa, he] using qq i (by omega)
  · simpa [up2, aPa] using ow i
  · have := sc s (by simpa [up2, aPa] using hs)
    simp [up2, aPa]; omega
  · simpa [up2, aPa] using cn j
theorem KB_aSc {K : KT} (hB : KB K) {a b : Nat} (h : K 0 2 < 10 ∧ 1 ≤ a ∧ a < 2 ^ K 0 1 ∧ 1 ≤ b ∧ b ≤ 99) : KB (aSc K a b) := by
  obtain ⟨⟨b0, b1, b2, b3, b4, b5, b6, b7, b8⟩, p12, p3, qq, ow, sc, cn⟩ := hB
  refine ⟨⟨?_, ?_, ?_, ?_, ?_, ?_, ?_, ?_, ?_⟩, fun p hp => ?_, fun p => ?_, fun i hi => ?_, fun i => ?_, fun s hs => ?_, fun j => ?_⟩
  · simpa [up2, aSc] using b0
  · simpa [up2, aSc] using b1
  · simp [up2, aSc]; omega
  · simpa [up2, aSc] using b3
  · simpa [up2, aSc] using b4
  · simpa [up2, aSc] using b5
  · simpa [up2, aSc] using b6
  · simpa [up2, aSc] using b7
  · simpa [up2, aSc] using b8
  · simpa [up2, aSc] using p12 p (by simpa [up2, aSc] using hp)
  · simpa [up2, aSc] using p3 p
  · simpa [up2, aSc] using qq i (by simpa [up2, aSc] using hi)
  · simpa [up2, aSc] using ow i
  · have hs : s < K 0 2 + 1 := by simpa [up2, aSc] using hs
    by_cases he : s = K 0 2
    · simp [up2, aSc, he]; omega
    · simpa [up2, aSc, he] using sc s (by omega)
  · simpa [up2, aSc] using cn j
theorem KB_aOw {K : KT} (hB : KB K) {a b : Nat} (h : a < K 0 0 ∧ b < K 0 1) : KB (aOw K a b) := by
  obtain ⟨bb, p12, p3, qq, ow, sc, cn⟩ := hB
  refine ⟨by simpa [up2, aOw] using bb, fun p hp => ?_, fun p => ?_, fun i hi => ?_, fun i => ?_, fun s hs => ?_, fun j => ?_⟩
  · simpa [up2, aOw] using p12 p (by simpa [up2, aOw] using hp)
  · simpa [up2, aOw] using p3 p
  · simpa [up2, aOw] using qq i (by simpa [up2, aOw] using hi)
  · by_cases he : i = b
    · simp [up2, aOw, he]; omega
    · simpa [up2, aOw, he] using ow i
  · simpa [up2, aOw] using sc s (by simpa [up2, aOw] using hs)
  · simpa [up2, aOw] using cn j
theorem KB_aKn {K : KT} (hB : KB K) {a b : Nat} (h : K 0 3 < 24 ∧ a < K 0 0 ∧ b < K 0 1) : KB (aKn K a b) := by
  obtain ⟨⟨b0, b1, b2, b3, b4, b5, b6, b7, b8⟩, p12, p3, qq, ow, sc, cn⟩ := hB
  refine ⟨⟨?_, ?_, ?_, ?_, ?_, ?_, ?_, ?_, ?_⟩, fun p hp => ?_, fun p => ?_, fun i hi => ?_, fun i => ?_, fun s hs => ?_, fun j => ?_⟩
  · simpa [up2, aKn] using b0
  · simpa [up2, aKn] using b1
  · simpa [up2, aKn] using b2
  · simp [up2, aKn]; omega
  · simpa [up2, aKn] using b4
  · simpa [up2, aKn] using b5
  · simpa [up2, aKn] using b6
  · simpa [up2, aKn] using b7
  · simpa [up2, aKn] using b8
  · simpa [up2, aKn] using p12 p (by simpa [up2, aKn] using hp)
  · by_cases he : p = a
    · have h1 : K 3 a ||| 2 ^ b < 2 ^ K 0 1 := tb_lt (fun i hi => by rw [Nat.testBit_or, pow_tb, tb_big (p3 a) hi]; simp; omega)
      simpa [up2, aKn, he] using h1
    · simpa [up2, aKn, he] using p3 p
  · simpa [up2, aKn] using qq i (by simpa [up2, aKn] using hi)
  · simpa [up2, aKn] using ow i
  · simpa [up2, aKn] using sc s (by simpa [up2, aKn] using hs)
  · simpa [up2, aKn] using cn j
theorem KB_aCo {K : KT} (hB : KB K) {a b f : Nat} (h : f ≤ 100) : KB (aCo K a b f) := by
  obtain ⟨bb, p12, p3, qq, ow, sc, cn⟩ := hB
  refine ⟨by simpa [up2, aCo] using bb, fun p hp => ?_, fun p => ?_, fun i hi => ?_, fun i => ?_, fun s hs => ?_, fun j => ?_⟩
  · simpa [up2, aCo] using p12 p (by simpa [up2, aCo] using hp)
  · simpa [up2, aCo] using p3 p
  · simpa [up2, aCo] using qq i (by simpa [up2, aCo] using hi)
  · simpa [up2, aCo] using ow i
  · simpa [up2, aCo] using sc s (by simpa [up2, aCo] using hs)
  · by_cases h1 : j = 10 * b + a
    · simp [up2, aCo, h1]; omega
    · by_cases h2 : j = 10 * a + b
      · simp [up2, aCo, h2]; omega
      · simpa [up2, aCo, h1, h2] using cn j
theorem KB_num {K : KT} (hB : KB K) {q v : Nat} (h : q = 4 ∧ v ≤ 99 ∨ q = 5 ∧ v ≤ 9 ∨ q = 6 ∧ v ≤ 99 ∨ q = 7 ∧ v ≤ 999 ∨ q = 8 ∧ v ≤ 99) : KB (up2 K 0 q v) := by
  obtain ⟨⟨b0, b1, b2, b3, b4, b5, b6, b7, b8⟩, p12, p3, qq, ow, sc, cn⟩ := hB
  have e0 : up2 K 0 q v 0 0 = K 0 0 := u2n (by omega)
  have e1 : up2 K 0 q v 0 1 = K 0 1 := u2n (by omega)
  have e2 : up2 K 0 q v 0 2 = K 0 2 := u2n (by omega)
  have e3 : up2 K 0 q v 0 3 = K 0 3 := u2n (by omega)
  have eo : ∀ a b, a ≠ 0 → up2 K 0 q v a b = K a b := fun a b ha => u2n (Or.inl ha)
  refine ⟨⟨by rw [e0]; exact b0, by rw [e1]; exact b1, by rw [e2]; exact b2, by rw [e3]; exact b3, ?_, ?_, ?_, ?_, ?_⟩, fun p hp => ?_, fun p => ?_, fun i hi => ?_, fun i => ?_, fun s hs => ?_, fun j => ?_⟩
  · by_cases hq : q = 4
    · subst hq; rw [u2e]; omega
    · rw [u2n (by omega)]; exact b4
  · by_cases hq : q = 5
    · subst hq; rw [u2e]; omega
    · rw [u2n (by omega)]; exact b5
  · by_cases hq : q = 6
    · subst hq; rw [u2e]; omega
    · rw [u2n (by omega)]; exact b6
  · by_cases hq : q = 7
    · subst hq; rw [u2e]; omega
    · rw [u2n (by omega)]; exact b7
  · by_cases hq : q = 8
    · subst hq; rw [u2e]; omega
    · rw [u2n (by omega)]; exact b8
  · rw [e0] at hp; rw [eo _ _ (by decide), eo _ _ (by decide)]; exact p12 p hp
  · rw [e1, eo _ _ (by decide)]; exact p3 p
  · rw [e1] at hi; rw [eo _ _ (by decide), eo _ _ (by decide), eo _ _ (by decide), eo _ _ (by decide)]; exact qq i hi
  · rw [e0, eo _ _ (by decide)]; exact ow i
  · rw [e2] at hs; rw [e1, eo _ _ (by decide), eo _ _ (by decide)]; exact sc s hs
  · rw [eo _ _ (by decide)]; exact cn j
theorem takeK_KB {K K' : KT} {u n : Nat} {nu : Nat → Nat} (hB : KB K) (hn : ∀ q, q < n → nu q ≤ 999) (h : takeK K u nu n = some K') : KB K' := by
  unfold takeK at h
  repeat' split at h
  all_goals first
    | (cases h; done)
    | skip
  all_goals cases h
  · rename_i hcd; exact KB_aPl hB hcd.2
  · rename_i hcd; exact KB_aPa hB (hn 2 (by omega)) hcd.2
  · rename_i hcd; exact KB_aSc hB hcd.2
  · rename_i hcd; exact KB_aOw hB hcd.2
  · rename_i hcd; exact KB_aKn hB hcd.2
  · rename_i hcd; exact KB_aCo hB hcd.2.2.2.2
  · rename_i hcd; exact KB_num hB (Or.inl ⟨rfl, hcd.2⟩)
  · rename_i hcd; exact KB_num hB (Or.inr (Or.inl ⟨rfl, hcd.2⟩))
  · rename_i hcd; exact KB_num hB (Or.inr (Or.inr (Or.inl ⟨rfl, hcd.2⟩)))
  · rename_i hcd; exact KB_num (KB_num hB (q := 7) (v := nu 0) (Or.inr (Or.inr (Or.inr (Or.inl ⟨rfl, hn 0 (by omega)⟩))))) (Or.inr (Or.inr (Or.inr (Or.inr ⟨rfl, hcd.2⟩))))
section
variable {E : En} {I : TI} {J : TJ} {co dr : Nat} {cc a1 a2 : Option Nat} {Post : PT} {c : Nat} {K : KT} {t : Nat → Nat} {len : Nat}
theorem sp_plClear (hc : c = 4 ∨ c = 18) (Kk : Post none NC (up2 (up2 I (c + 8) 0 0) (c + 8) 1 0) J (RR co dr cc a1 a2)) : Cal E 1 M_X5_clear [.ref (c + 8)] NC I J (RR co dr cc a1 a2) Post := by
  obtain ⟨_, _, _, _, _⟩ := f_pl (co := co) (dr := dr) (cc := cc) (a1 := a1) (a2 := a2) (co_pl hc)
  refine Cal_of kn_X5_clear rfl (Nat.le_of_ble_eq_true rfl) ?_
  refine V_aload_n dX5_clear_0 rfl rfl (V_iconst (v := 0) dX5_clear_1 (by decide) ?_)
  refine V_putI dX5_clear_2 fl_X5_18 (by first | assumption | exact ⟨by decide, rfl⟩) ?_
  refine V_aload_n dX5_clear_5 rfl rfl (V_iconst (v := 0) dX5_clear_6 (by decide) ?_)
  refine V_putI dX5_clear_7 fl_X5_22 (by first | assumption | exact ⟨by decide, rfl⟩) ?_
  refine V_return dX5_clear_10 rfl rfl (by decide) (by decide) ?_
  exact Kk
theorem sp_coClear (hc : c = 4 ∨ c = 18) (Kk : ∀ I', (∀ q z, (q < c ∨ c + 11 < q) → I' q z = I q z) → CoX I' c K0 → Post none NC I' J (RR co dr cc a1 a2)) : Cal E 2 M_X3_clear [.ref c] NC I J (RR co dr cc a1 a2) Post := by
  obtain ⟨_, _, _, _, _, _, _, _, _, _, _, _, _, _, _, _, _, _, _, _, _, _, _⟩ := f_co (co := co) (dr := dr) (cc := cc) (a1 := a1) (a2 := a2) (hc)
  obtain ⟨_, _, _, _, _⟩ := f_pl (co := co) (dr := dr) (cc := cc) (a1 := a1) (a2 := a2) (co_pl hc)
  refine Cal_of kn_X3_clear rfl (Nat.le_of_ble_eq_true rfl) ?_
  refine V_aload_n dX3_clear_0 rfl rfl (V_iconst (v := 0) dX3_clear_1 (by decide) ?_)
  refine V_putI dX3_clear_2 fl_X3_49 (by first | assumption | exact ⟨by decide, rfl⟩) ?_
  refine V_aload_n dX3_clear_5 rfl rfl (V_iconst (v := 0) dX3_clear_6 (by decide) ?_)
  refine V_putI dX3_clear_7 fl_X3_53 (by first | assumption | exact ⟨by decide, rfl⟩) ?_
  refine V_aload_n dX3_clear_10 rfl rfl (V_iconst (v := 0) dX3_clear_11 (by decide) ?_)
  refine V_putI dX3_clear_12 fl_X3_56 (by first | assumption | exact ⟨by decide, rfl⟩) ?_
  refine V_aload_n dX3_clear_15 rfl rfl (V_iconst (v := 0) dX3_clear_16 (by decide) ?_)
  refine V_putI dX3_clear_17 fl_X3_59 (by first | assumption | exact ⟨by decide, rfl⟩) ?_
  refine V_aload_n dX3_clear_20 rfl rfl ?_
  refine V_getR dX3_clear_21 fl_X3_18 (by first | assumption | exact ⟨by decide, rfl⟩) (by first | assumption | rfl) ?_
  refine V_iconst (v := 0) dX3_clear_24 (by decide) ?_
  refine V_cS2v (M' := M_J7_fill_53178) (d' := 1) dX3_clear_25 (Or.inl ml_X3_62) kb_J7_fill_53178 (by first | decide | omega) (by simp [Value.category]) ⟨by decide, by decide⟩ ?_
  refine sp_fill (len := 10) (by assumption) (fun I1 h1 => ⟨rfl, ?_⟩)
  refine V_aload_n dX3_clear_28 rfl rfl ?_
  refine V_getR dX3_clear_29 fl_X3_30 (by first | assumption | exact ⟨by decide, rfl⟩) (by first | assumption | rfl) ?_
  refine V_bipush (v := (-4)) dX3_clear_32 (by decide) ?_
  refine V_cS2v (M' := M_J7_fill_53178) (d' := 1) dX3_clear_34 (Or.inl ml_X3_62) kb_J7_fill_53178 (by first | decide | omega) (by simp [Value.category]) ⟨by decide, by decide⟩ ?_
  refine sp_fill (len := 8) (by assumption) (fun I2 h2 => ⟨rfl, ?_⟩)
  refine V_aload_n dX3_clear_37 rfl rfl ?_
  refine V_getR dX3_clear_38 fl_X3_40 (by first | assumption | exact ⟨by decide, rfl⟩) (by first | assumption | rfl) ?_
  refine V_iconst (v := 0) dX3_clear_41 (by decide) ?_
  refine V_cS2v (M' := M_J7_fill_53178) (d' := 1) dX3_clear_42 (Or.inl ml_X3_62) kb_J7_fill_53178 (by first | decide | omega) (by simp [Value.category]) ⟨by decide, by decide⟩ ?_
  refine sp_fill (len := 100) (by assumption) (fun I3 h3 => ⟨rfl, ?_⟩)
  refine V_aload_n dX3_clear_45 rfl rfl ?_
  refine V_getR dX3_clear_46 fl_X3_36 (by first | assumption | exact ⟨by decide, rfl⟩) (by first | assumption | rfl) ?_
  refine V_cV0v (M' := M_X5_clear) (d' := 1) dX3_clear_49 (Or.inl ml_X3_68) kb_X5_clear (by first | assumption | exact ⟨by decide, rfl⟩) (by first | decide | omega) (by simp [Value.category]) ⟨by decide, by decide⟩ ?_
  refine sp_plClear hc ⟨rfl, ?_⟩
  refine V_aload_n dX3_clear_52 rfl rfl (V_iconst (v := 1) dX3_clear_53 (by decide) ?_)
  refine V_putI dX3_clear_54 fl_X3_71 (by first | assumption | exact ⟨by decide, rfl⟩) ?_
  refine V_aload_n dX3_clear_57 rfl rfl (V_bipush (v := 10) dX3_clear_58 (by decide) ?_)
  refine V_putI dX3_clear_60 fl_X3_74 (by first | assumption | exact ⟨by decide, rfl⟩) ?_
  refine V_aload_n dX3_clear_63 rfl rfl (V_bipush (v := 100) dX3_clear_64 (by decide) ?_)
  refine V_putI dX3_clear_66 fl_X3_77 (by first | assumption | exact ⟨by decide, rfl⟩) ?_
  refine V_aload_n dX3_clear_69 rfl rfl (V_iconst (v := 5) dX3_clear_70 (by decide) ?_)
  refine V_putI dX3_clear_71 fl_X3_80 (by first | assumption | exact ⟨by decide, rfl⟩) ?_
  refine V_return dX3_clear_74 rfl rfl (by decide) (by decide) ?_
  refine Kk _ (fun q z hq => ?_) ?_
  · rw [u2n (by omega), u2n (by omega), u2n (by omega), u2n (by omega), u2n (by omega), u2n (by omega), h3, if_neg (by omega), h2, if_neg (by omega), h1, if_neg (by omega), u2n (by omega), u2n (by omega), u2n (by omega), u2n (by omega)]
  · refine CoX.mk ?_ ?_ ?_ ?_ ?_ ?_ ?_ ?_ ?_ ?_ (fun p hp => ?_) (fun p hp => ?_) (fun p hp => ?_) (fun p hp => ?_) (fun p hp => ?_) (fun p hp => ?_) (fun p hp => ?_) (fun p hp => ?_) (fun p hp => ?_) (fun p hp => ?_)
    · simp [up2, h1, h2, h3, K0, nI_0]
    · simp [up2, h1, h2, h3, K0, nI_0]
    · simp [up2, h1, h2, h3, K0, nI_0]
    · have e : cutM K0 = 0 := rfl
      rw [e]; simp [up2, h1, h2, h3, nI_0]
    · simp [up2, K0]; rfl
    · simp [up2, K0]; rfl
    · simp [up2, K0]; rfl
    · simp [up2, K0]; rfl
    · simp [up2, K0, nI_0]
    · simp [up2, K0, nI_0]
    · exact absurd hp (by simp [K0])
    · exact absurd hp (by simp [K0])
    · simp [up2, h1, h2, h3, hp, K0, nI_0]
    · exact absurd hp (by simp [K0])
    · exact absurd hp (by simp [K0])
    · exact absurd hp (by simp [K0])
    · simp [up2, h2, h3, hp, K0, owv]
    · exact absurd hp (by simp [K0])
    · exact absurd hp (by simp [K0])
    · simp [up2, h3, hp, K0, nI_0]
theorem sp_firstFault (hc : c = 4 ∨ c = 18) (hT : TX I t len) (Kk : ∀ I', (∀ q z, (q < c ∨ c + 11 < q) → q ≠ 2 → q ≠ 3 → I' q z = I q z) → CoX I' c (rdF t len (len + 1) K0 0).2 → KB (rdF t len (len + 1) K0 0).2 → Post (some (.int (flt (rdF t len (len + 1) K0 0).1))) NC I' J (RR co dr cc a1 a2)) : Cal E 4 M_X6_firstFault [.ref 2, .ref 1, .int (nI len), .ref c] NC I J (RR co dr cc a1 a2) Post := by
  have hl := hT.1
  obtain ⟨_, _, _, _, _, _, _, _, _, _, _, _, _, _, _, _, _, _, _, _, _, _, _⟩ := f_co (co := co) (dr := dr) (cc := cc) (a1 := a1) (a2 := a2) (hc)
  refine Cal_of kn_X6_firstFault rfl (Nat.le_of_ble_eq_true rfl) ?_
  refine V_aload_n dX6_firstFault_0 rfl rfl ?_
  refine V_cV0v (M' := M_X3_clear) (d' := 2) dX6_firstFault_1 (Or.inl ml_X6_15) kb_X3_clear (by first | assumption | exact ⟨by decide, rfl⟩) (by first | decide | omega) (by simp [Value.category]) ⟨by decide, by decide⟩ ?_
  refine sp_coClear hc (fun I0 hI0 hX0 => ⟨rfl, ?_⟩)
  refine V_iconst (v := 0) dX6_firstFault_4 (by decide) (V_istore_4 dX6_firstFault_5 (by decide) rfl ?_)
  have key : ∀ f k K1 I1, len + 1 ≤ k + f → k ≤ len → KB K1 → CoX I1 c K1 → (∀ q z, (q < c ∨ c + 11 < q) → q ≠ 2 → q ≠ 3 → I1 q z = I q z) → (∀ I', (∀ q z, (q < c ∨ c + 11 < q) → q ≠ 2 → q ≠ 3 → I' q z = I q z) → CoX I' c (rdF t len f K1 k).2 → KB (rdF t len f K1 k).2 → Post (some (.int (flt (rdF t len f K1 k).1))) NC I' J (RR co dr cc a1 a2)) → V E 4 M_X6_firstFault Post 7 [some (.ref 2), some (.ref 1), some (.int (nI len)), some (.ref c), some (.int (nI k)), none] [] NC 0 0 I1 J (RR co dr cc a1 a2) := by
    intro f
    induction f with
    | zero => intro k K1 I1 h1 h2; exact absurd h1 (by omega)
    | succ f ih =>
      intro k K1 I1 hf hk hB1 hX1 hI1 hp
      have hT1 : TX I1 t len := ⟨hT.1, fun j hj => by rw [hI1 1 j (by omega) (by decide) (by decide)]; exact hT.2 j hj⟩
      unfold rdF at hp
      by_cases hkl : len ≤ k
      · rw [if_pos hkl] at hp
        refine V_iload dX6_firstFault_7 rfl (V_iload_n dX6_firstFault_9 rfl rfl ?_)
        refine V_icmp_ge_t (tgt := 59) dX6_firstFault_10 (by decide) (nI_le hkl (by omega)) ?_
        refine V_bipush (v := (-4)) dX6_firstFault_59 (by decide) ?_
        refine V_ireturn dX6_firstFault_61 rfl rfl rfl (by decide) (by decide) ?_
        exact hp I1 hI1 hX1 hB1
      · rw [if_neg hkl] at hp
        refine V_iload dX6_firstFault_7 rfl (V_iload_n dX6_firstFault_9 rfl rfl ?_)
        refine V_icmp_ge_f (tgt := 59) dX6_firstFault_10 (by decide) (nI_ge (by omega) (by omega)) ?_
        refine V_aload_n dX6_firstFault_13 rfl rfl (V_aload_n dX6_firstFault_14 rfl rfl (V_iload_n dX6_firstFault_15 rfl rfl (V_iload dX6_firstFault_16 rfl ?_)))
        refine V_cV3i (M' := M_X6_endOfItem) (d' := 2) dX6_firstFault_18 (Or.inl ml_X6_20) kb_X6_endOfItem (by first | assumption | exact ⟨by decide, rfl⟩) (by first | decide | omega) (by simp [Value.category]) ⟨by decide, by decide⟩ ?_
        refine sp_endOfItem hT1 (by omega) (fun hno I2 hI2 => ⟨_, rfl, ?_⟩) (fun pp l hyes I2 hI2 hnum hcnt => ⟨_, rfl, ?_⟩)
        · rw [hno] at hp
          have hX2 : CoX I2 c K1 := hX1.of (fun a b g1 g2 => hI2 a b (by omega) (by omega))
          refine V_istore_5 dX6_firstFault_21 (by decide) rfl (V_iload dX6_firstFault_23 rfl (V_iload dX6_firstFault_25 rfl ?_))
          refine V_icmp_le_t (tgt := 49) dX6_firstFault_27 (by decide) (by rw [← nI_0]; exact nI_le (Nat.zero_le _) (by omega)) ?_
          refine V_iload dX6_firstFault_49 rfl ?_
          refine V_ireturn dX6_firstFault_51 rfl rfl rfl (by decide) (by decide) ?_
          exact hp I2 (fun q z g1 g2 g3 => by rw [hI2 q z g2 g3]; exact hI1 q z g1 g2 g3) hX2 hB1
        · rw [hyes] at hp
          obtain ⟨w1, w2, w3, w4, w5⟩ := eoi_ok t len 4 (k + 1) pp l hyes
          have hX2 : CoX I2 c K1 := hX1.of (fun a b g1 g2 => hI2 a b (by omega) (by omega))
          have hI21 : ∀ q z, (q < c ∨ c + 11 < q) → q ≠ 2 → q ≠ 3 → I2 q z = I q z := fun q z g1 g2 g3 => by rw [hI2 q z g2 g3]; exact hI1 q z g1 g2 g3
          refine V_istore_5 dX6_firstFault_21 (by decide) rfl (V_iload dX6_firstFault_23 rfl (V_iload dX6_firstFault_25 rfl ?_))
          refine V_icmp_le_f (tgt := 49) dX6_firstFault_27 (by decide) (by rw [lit_le (by omega) (by omega)]; omega) ?_
          refine V_aload_n dX6_firstFault_30 rfl rfl (V_aload_n dX6_firstFault_31 rfl rfl (V_iload dX6_firstFault_32 rfl ?_))
          refine V_bal dX6_firstFault_34 (by first | assumption | exact ⟨by decide, rfl⟩) ⟨rfl, by omega⟩ ?_
          refine V_aload_n dX6_firstFault_35 rfl rfl ?_
          refine V_getR dX6_firstFault_36 fl_X6_9 (by first | assumption | exact ⟨by decide, rfl⟩) (by first | assumption | rfl) ?_
          refine V_aload_n dX6_firstFault_39 rfl rfl ?_
          refine V_getI dX6_firstFault_40 fl_X6_24 (by first | assumption | exact ⟨by decide, rfl⟩) ?_
          refine V_cV3i (M' := M_X3_take) (d' := 3) dX6_firstFault_43 (Or.inl ml_X6_28) kb_X3_take (by first | assumption | exact ⟨by decide, rfl⟩) (by first | decide | omega) (by simp [Value.category]) ⟨by decide, by decide⟩ ?_
          rw [hcnt, hI21 1 k (by omega) (by decide) (by decide), (hT.2 k (by omega)).1]
          refine sp_take (nu := fun q => l.getD q 0) hc hB1 hX2 (hT.2 k (by omega)).2 w4 (fun q hq => ⟨hnum q hq, w5 q hq⟩) (fun hno => ⟨_, rfl, ?_⟩) (fun K2 hK2 I3 hI3 hX3 => ⟨_, rfl, ?_⟩)
          · simp only [hno] at hp
            refine V_if_ne_f (tgt := 52) dX6_firstFault_46 (by decide) (rfl) ?_
            refine V_iload dX6_firstFault_49 rfl ?_
            refine V_ireturn dX6_firstFault_51 rfl rfl rfl (by decide) (by decide) ?_
            exact hp I2 hI21 hX2 hB1
          · simp only [hK2] at hp
            refine V_if_ne_t (tgt := 52) dX6_firstFault_46 (by decide) (by decide) ?_
            refine V_iload dX6_firstFault_52 rfl (V_istore_4 dX6_firstFault_54 (by decide) rfl (V_goto (tgt := 7) dX6_firstFault_56 (by decide) ?_))
            exact V_forget (ih pp K2 I3 (by omega) w2 (takeK_KB hB1 w5 hK2) hX3 (fun q z g1 g2 g3 => by rw [hI3 q z g1]; exact hI21 q z g1 g2 g3) hp) (by simp [lessb])
  exact key (len + 1) 0 K0 I0 (by omega) (by omega) KB_K0 hX0 (fun q z g1 _ _ => hI0 q z g1) Kk
end
