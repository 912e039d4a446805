/-! Scenes, owners, covers, colds and numbers of a company -/
section
variable {E : En} {I : TI} {J : TJ} {co dr : Nat} {cc a1 a2 : Option Nat} {Post : PT} {c : Nat} {K : KT}
theorem sp_addScene (hc : c = 4 ∨ c = 18) (hX : CoX I c K) (hS : K 0 2 < 10) {a b : Nat} (Ks : ∀ I', (∀ q z, (q < c ∨ c + 11 < q) → I' q z = I q z) → CoX I' c (aSc K a b) → Post none NC I' J (RR co dr cc a1 a2)) : Cal E 1 M_X5_addScene [.ref (c + 8), .int (nI a), .int (nI b)] NC I J (RR co dr cc a1 a2) Post := by
  have y := hX.2.1.1
  obtain ⟨_, _, _, _, _⟩ := f_pl (co := co) (dr := dr) (cc := cc) (a1 := a1) (a2 := a2) (co_pl hc)
  refine Cal_of kn_X5_addScene rfl (Nat.le_of_ble_eq_true rfl) ?_
  refine V_aload_n dX5_addScene_0 rfl rfl ?_
  refine V_getR dX5_addScene_1 fl_X5_9 (by first | assumption | exact ⟨by decide, rfl⟩) (by first | assumption | rfl) ?_
  refine V_aload_n dX5_addScene_4 rfl rfl ?_
  refine V_getI dX5_addScene_5 fl_X5_18 (by first | assumption | exact ⟨by decide, rfl⟩) ?_
  refine V_iload_n dX5_addScene_8 rfl rfl ?_
  refine V_ias dX5_addScene_9 (by first | assumption | exact ⟨by decide, rfl⟩) ⟨y, by omega⟩ ?_
  refine V_aload_n dX5_addScene_10 rfl rfl ?_
  refine V_getR dX5_addScene_11 fl_X5_15 (by first | assumption | exact ⟨by decide, rfl⟩) (by first | assumption | rfl) ?_
  refine V_aload_n dX5_addScene_14 rfl rfl ?_
  refine V_getI dX5_addScene_15 fl_X5_18 (by first | assumption | exact ⟨by decide, rfl⟩) ?_
  refine V_iload_n dX5_addScene_18 rfl rfl ?_
  refine V_ias dX5_addScene_19 (by first | assumption | exact ⟨by decide, rfl⟩) ⟨(by rw [u2n (by omega)]; exact y), by omega⟩ ?_
  refine V_aload_n dX5_addScene_20 rfl rfl (V_dup dX5_addScene_21 rfl ?_)
  refine V_getI dX5_addScene_22 fl_X5_18 (by first | assumption | exact ⟨by decide, rfl⟩) ?_
  refine V_iconst (v := 1) dX5_addScene_25 (by decide) (V_iadd dX5_addScene_26 ?_)
  refine V_putI dX5_addScene_27 fl_X5_18 (by first | assumption | exact ⟨by decide, rfl⟩) ?_
  refine V_return dX5_addScene_30 rfl rfl (by decide) (by decide) ?_
  refine Ks _ (fun q z hq => ?_) ?_
  · rw [u2n (by omega), u2n (by omega), u2n (by omega)]
  · rw [show c + 8 + 1 = c + 9 by omega, show c + 8 + 2 = c + 10 by omega]
    obtain ⟨x1, x2, x3, x4, x5, x6, x7, x8, y1, y2, d1, d2, d3, f1, f2, f3, g, k1, k2, l⟩ := hX.all
    refine CoX.mk ?_ ?_ ?_ ?_ ?_ ?_ ?_ ?_ ?_ ?_ (fun p hp => ?_) (fun p hp => ?_) (fun p hp => ?_) (fun p hp => ?_) (fun p hp => ?_) (fun p hp => ?_) (fun p hp => ?_) (fun p hp => ?_) (fun p hp => ?_) (fun p hp => ?_)
    · simp [up2, aSc, x1, nI_1]
    · simp [up2, aSc, x2, nI_1]
    · simp [up2, aSc, x3, nI_1]
    · rw [cutM_of (K := K) (by simp [up2, aSc]) (by intro i hi; simp [up2, aSc])]; simp [up2, x4]
    · simp [up2, aSc, x5, nI_1]
    · simp [up2, aSc, x6, nI_1]
    · simp [up2, aSc, x7, nI_1]
    · simp [up2, aSc, x8, nI_1]
    · simp [up2, aSc, y1, nI_1]
    · simp [up2, aSc, y2, nI_1]
    · have hp : p < K 0 0 := by simpa [up2, aSc] using hp
      simp [up2, aSc, d1 p hp]
    · have hp : p < K 0 0 := by simpa [up2, aSc] using hp
      simp [up2, aSc, d2 p hp]
    · simp [up2, aSc, d3 p hp]
    · have hp : p < K 0 1 := by simpa [up2, aSc] using hp
      simp [up2, aSc, f1 p hp]
    · have hp : p < K 0 1 := by simpa [up2, aSc] using hp
      simp [up2, aSc, f2 p hp]
    · have hp : p < K 0 1 := by simpa [up2, aSc] using hp
      simp [up2, aSc, f3 p hp]
    · simp [up2, aSc, g p hp]
    · have hp : p < K 0 2 + 1 := by simpa [up2, aSc] using hp
      by_cases hpe : p = K 0 2
      · simp [up2, aSc, hpe]
      · simp [up2, aSc, hpe, k1 p (by omega)]
    · have hp : p < K 0 2 + 1 := by simpa [up2, aSc] using hp
      by_cases hpe : p = K 0 2
      · simp [up2, aSc, hpe]
      · simp [up2, aSc, hpe, k2 p (by omega)]
    · simp [up2, aSc, l p hp]
theorem sp_tellScene (hc : c = 4 ∨ c = 18) (hB : KB K) (hX : CoX I c K) {a b : Nat} (ha : a < 2 ^ 31) (hb : b < 2 ^ 31) (Kn : ¬ (K 0 2 < 10 ∧ 1 ≤ a ∧ a < 2 ^ K 0 1 ∧ 1 ≤ b ∧ b ≤ 99) → Post (some (.int 0)) NC I J (RR co dr cc a1 a2)) (Ks : K 0 2 < 10 ∧ 1 ≤ a ∧ a < 2 ^ K 0 1 ∧ 1 ≤ b ∧ b ≤ 99 → ∀ I', (∀ q z, (q < c ∨ c + 11 < q) → I' q z = I q z) → CoX I' c (aSc K a b) → Post (some (.int 1)) NC I' J (RR co dr cc a1 a2)) : Cal E 2 M_X3_tellScene [.ref c, .int (nI a), .int (nI b)] NC I J (RR co dr cc a1 a2) Post := by
  have hS := hB.1.2.2.1
  have hQ := hB.1.2.1
  have y := hX.2.1.1
  obtain ⟨_, _, _, _, _, _, _, _, _, _, _, _, _, _, _, _, _, _, _, _, _, _, _⟩ := f_co (co := co) (dr := dr) (cc := cc) (a1 := a1) (a2 := a2) (hc)
  obtain ⟨_, _, _, _, _⟩ := f_pl (co := co) (dr := dr) (cc := cc) (a1 := a1) (a2 := a2) (co_pl hc)
  refine Cal_of kn_X3_tellScene rfl (Nat.le_of_ble_eq_true rfl) ?_
  have e10 : (10 : Int32) = nI 10 := rfl
  have e99 : (99 : Int32) = nI 99 := rfl
  have e1 : (1 : Int32) = nI 1 := rfl
  by_cases h1 : K 0 2 < 10
  · by_cases h2 : 1 ≤ a
    · refine V_aload_n dX3_tellScene_0 rfl rfl ?_
      refine V_getR dX3_tellScene_1 fl_X3_36 (by first | assumption | exact ⟨by decide, rfl⟩) (by first | assumption | rfl) ?_
      refine V_getI dX3_tellScene_4 fl_X3_117 (by first | assumption | exact ⟨by decide, rfl⟩) ?_
      refine V_bipush (v := 10) dX3_tellScene_7 (by decide) ?_
      refine V_icmp_ge_f (tgt := 36) dX3_tellScene_9 (by decide) (by rw [y, e10, lit_le (by omega) (by omega)]; omega) ?_
      refine V_iload_n dX3_tellScene_12 rfl rfl (V_iconst (v := 1) dX3_tellScene_13 (by decide) ?_)
      refine V_icmp_lt_f (tgt := 36) dX3_tellScene_14 (by decide) (by rw [e1, lit_lt (by omega) (by omega)]; omega) ?_
      refine V_aload_n dX3_tellScene_17 rfl rfl (V_iload_n dX3_tellScene_18 rfl rfl ?_)
      refine V_cV1i (M' := M_X3_hasParts) (d' := 1) dX3_tellScene_19 (Or.inl ml_X3_120) kb_X3_hasParts (by first | assumption | exact ⟨by decide, rfl⟩) (by first | decide | omega) (by simp [Value.category]) ⟨by decide, by decide⟩ ?_
      refine sp_hasParts hc hX.1.2.1 (by omega) ⟨_, rfl, ?_⟩
      rw [inR_nI ha]
      by_cases h3 : a < 2 ^ K 0 1
      · rw [decide_eq_true h3]
        by_cases h4 : 1 ≤ b
        · by_cases h5 : b ≤ 99
          · refine V_if_eq_f (tgt := 36) dX3_tellScene_22 (by decide) (by decide) ?_
            refine V_iload_n dX3_tellScene_25 rfl rfl (V_iconst (v := 1) dX3_tellScene_26 (by decide) ?_)
            refine V_icmp_lt_f (tgt := 36) dX3_tellScene_27 (by decide) (by rw [e1, lit_lt (by omega) (by omega)]; omega) ?_
            refine V_iload_n dX3_tellScene_30 rfl rfl (V_bipush (v := 99) dX3_tellScene_31 (by decide) ?_)
            refine V_icmp_le_t (tgt := 38) dX3_tellScene_33 (by decide) (by rw [e99, lit_le (by omega) (by omega)]; omega) ?_
            refine V_aload_n dX3_tellScene_38 rfl rfl ?_
            refine V_getR dX3_tellScene_39 fl_X3_36 (by first | assumption | exact ⟨by decide, rfl⟩) (by first | assumption | rfl) ?_
            refine V_iload_n dX3_tellScene_42 rfl rfl (V_iload_n dX3_tellScene_43 rfl rfl ?_)
            refine V_cV2v (M' := M_X5_addScene) (d' := 1) dX3_tellScene_44 (Or.inl ml_X3_123) kb_X5_addScene (by first | assumption | exact ⟨by decide, rfl⟩) (by first | decide | omega) (by simp [Value.category]) ⟨by decide, by decide⟩ ?_
            refine sp_addScene hc hX h1 (fun I' hI hX' => ⟨rfl, ?_⟩)
            refine V_iconst (v := 1) dX3_tellScene_47 (by decide) ?_
            refine V_ireturn dX3_tellScene_48 rfl rfl rfl (by decide) (by decide) ?_
            exact Ks ⟨h1, h2, h3, h4, h5⟩ I' hI hX'
          · refine V_if_eq_f (tgt := 36) dX3_tellScene_22 (by decide) (by decide) ?_
            refine V_iload_n dX3_tellScene_25 rfl rfl (V_iconst (v := 1) dX3_tellScene_26 (by decide) ?_)
            refine V_icmp_lt_f (tgt := 36) dX3_tellScene_27 (by decide) (by rw [e1, lit_lt (by omega) (by omega)]; omega) ?_
            refine V_iload_n dX3_tellScene_30 rfl rfl (V_bipush (v := 99) dX3_tellScene_31 (by decide) ?_)
            refine V_icmp_le_f (tgt := 38) dX3_tellScene_33 (by decide) (by rw [e99, lit_le (by omega) (by omega)]; omega) ?_
            refine V_iconst (v := 0) dX3_tellScene_36 (by decide) ?_
            refine V_ireturn dX3_tellScene_37 rfl rfl rfl (by decide) (by decide) ?_
            exact Kn (by omega)
        · refine V_if_eq_f (tgt := 36) dX3_tellScene_22 (by decide) (by decide) ?_
          refine V_iload_n dX3_tellScene_25 rfl rfl (V_iconst (v := 1) dX3_tellScene_26 (by decide) ?_)
          refine V_icmp_lt_t (tgt := 36) dX3_tellScene_27 (by decide) (by rw [e1, lit_lt (by omega) (by omega)]; omega) ?_
          refine V_iconst (v := 0) dX3_tellScene_36 (by decide) ?_
          refine V_ireturn dX3_tellScene_37 rfl rfl rfl (by decide) (by decide) ?_
          exact Kn (by omega)
      · rw [decide_eq_false h3]
        refine V_if_eq_t (tgt := 36) dX3_tellScene_22 (by decide) (rfl) ?_
        refine V_iconst (v := 0) dX3_tellScene_36 (by decide) ?_
        refine V_ireturn dX3_tellScene_37 rfl rfl rfl (by decide) (by decide) ?_
        exact Kn (fun z => h3 z.2.2.1)
    · refine V_aload_n dX3_tellScene_0 rfl rfl ?_
      refine V_getR dX3_tellScene_1 fl_X3_36 (by first | assumption | exact ⟨by decide, rfl⟩) (by first | assumption | rfl) ?_
      refine V_getI dX3_tellScene_4 fl_X3_117 (by first | assumption | exact ⟨by decide, rfl⟩) ?_
      refine V_bipush (v := 10) dX3_tellScene_7 (by decide) ?_
      refine V_icmp_ge_f (tgt := 36) dX3_tellScene_9 (by decide) (by rw [y, e10, lit_le (by omega) (by omega)]; omega) ?_
      refine V_iload_n dX3_tellScene_12 rfl rfl (V_iconst (v := 1) dX3_tellScene_13 (by decide) ?_)
      refine V_icmp_lt_t (tgt := 36) dX3_tellScene_14 (by decide) (by rw [e1, lit_lt (by omega) (by omega)]; omega) ?_
      refine V_iconst (v := 0) dX3_tellScene_36 (by decide) ?_
      refine V_ireturn dX3_tellScene_37 rfl rfl rfl (by decide) (by decide) ?_
      exact Kn (fun z => h2 z.2.1)
  · refine V_aload_n dX3_tellScene_0 rfl rfl ?_
    refine V_getR dX3_tellScene_1 fl_X3_36 (by first | assumption | exact ⟨by decide, rfl⟩) (by first | assumption | rfl) ?_
    refine V_getI dX3_tellScene_4 fl_X3_117 (by first | assumption | exact ⟨by decide, rfl⟩) ?_
    refine V_bipush (v := 10) dX3_tellScene_7 (by decide) ?_
    refine V_icmp_ge_t (tgt := 36) dX3_tellScene_9 (by decide) (by rw [y, e10, lit_le (by omega) (by omega)]; omega) ?_
    refine V_iconst (v := 0) dX3_tellScene_36 (by decide) ?_
    refine V_ireturn dX3_tellScene_37 rfl rfl rfl (by decide) (by decide) ?_
    exact Kn (fun z => h1 z.1)
theorem sp_giveOwn (hc : c = 4 ∨ c = 18) (hB : KB K) (hX : CoX I c K) {a b : Nat} (ha : a < 2 ^ 31) (hb : b < 2 ^ 31) (Kn : ¬ (a < K 0 0 ∧ b < K 0 1) → Post (some (.int 0)) NC I J (RR co dr cc a1 a2)) (Ks : a < K 0 0 ∧ b < K 0 1 → ∀ I', (∀ q z, (q < c ∨ c + 11 < q) → I' q z = I q z) → CoX I' c (aOw K a b) → Post (some (.int 1)) NC I' J (RR co dr cc a1 a2)) : Cal E 2 M_X3_giveOwn [.ref c, .int (nI a), .int (nI b)] NC I J (RR co dr cc a1 a2) Post := by
  have hP := hB.1.1
  have hQ := hB.1.2.1
  obtain ⟨_, _, _, _, _, _, _, _, _, _, _, _, _, _, _, _, _, _, _, _, _, _, _⟩ := f_co (co := co) (dr := dr) (cc := cc) (a1 := a1) (a2 := a2) (hc)
  refine Cal_of kn_X3_giveOwn rfl (Nat.le_of_ble_eq_true rfl) ?_
  refine V_aload_n dX3_giveOwn_0 rfl rfl (V_iload_n dX3_giveOwn_1 rfl rfl ?_)
  refine V_cV1i (M' := M_X3_hasPlayer) (d' := 1) dX3_giveOwn_2 (Or.inl ml_X3_127) kb_X3_hasPlayer (by first | assumption | exact ⟨by decide, rfl⟩) (by first | decide | omega) (by simp [Value.category]) ⟨by decide, by decide⟩ ?_
  refine sp_hasPlayer hc hX.1.1 (by omega) ⟨_, rfl, ?_⟩
  rw [inR_nI ha]
  by_cases h1 : a < K 0 0
  · rw [decide_eq_true h1]
    refine V_if_eq_f (tgt := 16) dX3_giveOwn_5 (by decide) (by decide) ?_
    refine V_aload_n dX3_giveOwn_8 rfl rfl (V_iload_n dX3_giveOwn_9 rfl rfl ?_)
    refine V_cV1i (M' := M_X3_hasPart) (d' := 1) dX3_giveOwn_10 (Or.inl ml_X3_130) kb_X3_hasPart (by first | assumption | exact ⟨by decide, rfl⟩) (by first | decide | omega) (by simp [Value.category]) ⟨by decide, by decide⟩ ?_
    refine sp_hasPart hc hX.1.2.1 (by omega) ⟨_, rfl, ?_⟩
    rw [inR_nI hb]
    by_cases h2 : b < K 0 1
    · rw [decide_eq_true h2]
      refine V_if_ne_t (tgt := 18) dX3_giveOwn_13 (by decide) (by decide) ?_
      refine V_aload_n dX3_giveOwn_18 rfl rfl ?_
      refine V_getR dX3_giveOwn_19 fl_X3_30 (by first | assumption | exact ⟨by decide, rfl⟩) (by first | assumption | rfl) ?_
      refine V_iload_n dX3_giveOwn_22 rfl rfl (V_iload_n dX3_giveOwn_23 rfl rfl ?_)
      refine V_ias dX3_giveOwn_24 (by first | assumption | exact ⟨by decide, rfl⟩) ⟨rfl, by omega⟩ ?_
      refine V_iconst (v := 1) dX3_giveOwn_25 (by decide) ?_
      refine V_ireturn dX3_giveOwn_26 rfl rfl rfl (by decide) (by decide) ?_
      refine Ks ⟨h1, h2⟩ _ (fun q z hq => ?_) ?_
      · rw [u2n (by omega)]
      · obtain ⟨x1, x2, x3, x4, x5, x6, x7, x8, y1, y2, d1, d2, d3, f1, f2, f3, g, k1, k2, l⟩ := hX.all
        refine CoX.mk ?_ ?_ ?_ ?_ ?_ ?_ ?_ ?_ ?_ ?_ (fun p hp => ?_) (fun p hp => ?_) (fun p hp => ?_) (fun p hp => ?_) (fun p hp => ?_) (fun p hp => ?_) (fun p hp => ?_) (fun p hp => ?_) (fun p hp => ?_) (fun p hp => ?_)
        · simp [up2, aOw, x1, nI_1]
        · simp [up2, aOw, x2, nI_1]
        · simp [up2, aOw, x3, nI_1]
        · rw [cutM_of (K := K) (by simp [up2, aOw]) (by intro i hi; simp [up2, aOw])]; simp [up2, x4]
        · simp [up2, aOw, x5, nI_1]
        · simp [up2, aOw, x6, nI_1]
        · simp [up2, aOw, x7, nI_1]
        · simp [up2, aOw, x8, nI_1]
        · simp [up2, aOw, y1, nI_1]
        · simp [up2, aOw, y2, nI_1]
        · have hp : p < K 0 0 := by simpa [up2, aOw] using hp
          simp [up2, aOw, d1 p hp]
        · have hp : p < K 0 0 := by simpa [up2, aOw] using hp
          simp [up2, aOw, d2 p hp]
        · simp [up2, aOw, d3 p hp]
        · have hp : p < K 0 1 := by simpa [up2, aOw] using hp
          simp [up2, aOw, f1 p hp]
        · have hp : p < K 0 1 := by simpa [up2, aOw] using hp
          simp [up2, aOw, f2 p hp]
        · have hp : p < K 0 1 := by simpa [up2, aOw] using hp
          simp [up2, aOw, f3 p hp]
        · by_cases hpe : p = b
          · simp [up2, aOw, hpe, owv]
          · simp [up2, aOw, hpe, g p hp]
        · have hp : p < K 0 2 := by simpa [up2, aOw] using hp
          simp [up2, aOw, k1 p hp]
        · have hp : p < K 0 2 := by simpa [up2, aOw] using hp
          simp [up2, aOw, k2 p hp]
        · simp [up2, aOw, l p hp]
    · rw [decide_eq_false h2]
      refine V_if_ne_f (tgt := 18) dX3_giveOwn_13 (by decide) (rfl) ?_
      refine V_iconst (v := 0) dX3_giveOwn_16 (by decide) ?_
      refine V_ireturn dX3_giveOwn_17 rfl rfl rfl (by decide) (by decide) ?_
      exact Kn (by omega)
  · rw [decide_eq_false h1]
    refine V_if_eq_t (tgt := 16) dX3_giveOwn_5 (by decide) (rfl) ?_
    refine V_iconst (v := 0) dX3_giveOwn_16 (by decide) ?_
    refine V_ireturn dX3_giveOwn_17 rfl rfl rfl (by decide) (by decide) ?_
    exact Kn (by omega)
theorem sp_addCover (hc : c = 4 ∨ c = 18) (hB : KB K) (hX : CoX I c K) {a b : Nat} (ha : a < 2 ^ 31) (hb : b < 2 ^ 31) (Kn : ¬ (K 0 3 < 24 ∧ a < K 0 0 ∧ b < K 0 1) → Post (some (.int 0)) NC I J (RR co dr cc a1 a2)) (Ks : K 0 3 < 24 ∧ a < K 0 0 ∧ b < K 0 1 → ∀ I', (∀ q z, (q < c ∨ c + 11 < q) → I' q z = I q z) → CoX I' c (aKn K a b) → Post (some (.int 1)) NC I' J (RR co dr cc a1 a2)) : Cal E 2 M_X3_addCover [.ref c, .int (nI a), .int (nI b)] NC I J (RR co dr cc a1 a2) Post := by
  have hP := hB.1.1
  have hQ := hB.1.2.1
  have hV := hB.1.2.2.2.1
  obtain ⟨_, _, _, _, _, _, _, _, _, _, _, _, _, _, _, _, _, _, _, _, _, _, _⟩ := f_co (co := co) (dr := dr) (cc := cc) (a1 := a1) (a2 := a2) (hc)
  refine Cal_of kn_X3_addCover rfl (Nat.le_of_ble_eq_true rfl) ?_
  have e24 : (24 : Int32) = nI 24 := rfl
  by_cases h0 : K 0 3 < 24
  · refine V_aload_n dX3_addCover_0 rfl rfl ?_
    refine V_getI dX3_addCover_1 fl_X3_56 (by first | assumption | exact ⟨by decide, rfl⟩) ?_
    refine V_bipush (v := 24) dX3_addCover_4 (by decide) ?_
    refine V_icmp_ge_f (tgt := 25) dX3_addCover_6 (by decide) (by rw [hX.1.2.2.1, e24, lit_le (by omega) (by omega)]; omega) ?_
    refine V_aload_n dX3_addCover_9 rfl rfl (V_iload_n dX3_addCover_10 rfl rfl ?_)
    refine V_cV1i (M' := M_X3_hasPlayer) (d' := 1) dX3_addCover_11 (Or.inl ml_X3_127) kb_X3_hasPlayer (by first | assumption | exact ⟨by decide, rfl⟩) (by first | decide | omega) (by simp [Value.category]) ⟨by decide, by decide⟩ ?_
    refine sp_hasPlayer hc hX.1.1 (by omega) ⟨_, rfl, ?_⟩
    rw [inR_nI ha]
    by_cases h1 : a < K 0 0
    · rw [decide_eq_true h1]
      refine V_if_eq_f (tgt := 25) dX3_addCover_14 (by decide) (by decide) ?_
      refine V_aload_n dX3_addCover_17 rfl rfl (V_iload_n dX3_addCover_18 rfl rfl ?_)
      refine V_cV1i (M' := M_X3_hasPart) (d' := 1) dX3_addCover_19 (Or.inl ml_X3_130) kb_X3_hasPart (by first | assumption | exact ⟨by decide, rfl⟩) (by first | decide | omega) (by simp [Value.category]) ⟨by decide, by decide⟩ ?_
      refine sp_hasPart hc hX.1.2.1 (by omega) ⟨_, rfl, ?_⟩
      rw [inR_nI hb]
      by_cases h2 : b < K 0 1
      · rw [decide_eq_true h2]
        refine V_if_ne_t (tgt := 27) dX3_addCover_22 (by decide) (by decide) ?_
        refine V_aload_n dX3_addCover_27 rfl rfl ?_
        refine V_getR dX3_addCover_28 fl_X3_18 (by first | assumption | exact ⟨by decide, rfl⟩) (by first | assumption | rfl) ?_
        refine V_iload_n dX3_addCover_31 rfl rfl (V_dup2 dX3_addCover_32 rfl rfl ?_)
        refine V_ial dX3_addCover_33 (by first | assumption | exact ⟨by decide, rfl⟩) ⟨rfl, by omega⟩ ?_
        refine V_iconst (v := 1) dX3_addCover_34 (by decide) (V_iload_n dX3_addCover_35 rfl rfl (V_ishl dX3_addCover_36 (V_ior dX3_addCover_37 ?_)))
        refine V_ias dX3_addCover_38 (by first | assumption | exact ⟨by decide, rfl⟩) ⟨rfl, by omega⟩ ?_
        refine V_aload_n dX3_addCover_39 rfl rfl (V_dup dX3_addCover_40 rfl ?_)
        refine V_getI dX3_addCover_41 fl_X3_56 (by first | assumption | exact ⟨by decide, rfl⟩) ?_
        refine V_iconst (v := 1) dX3_addCover_44 (by decide) (V_iadd dX3_addCover_45 ?_)
        refine V_putI dX3_addCover_46 fl_X3_56 (by first | assumption | exact ⟨by decide, rfl⟩) ?_
        refine V_iconst (v := 1) dX3_addCover_49 (by decide) ?_
        refine V_ireturn dX3_addCover_50 rfl rfl rfl (by decide) (by decide) ?_
        refine Ks ⟨h0, h1, h2⟩ _ (fun q z hq => ?_) ?_
        · rw [u2n (by omega), u2n (by omega)]
        · rw [shl1 (by omega), hX.2.2.2.1 a (by omega), or_nI]
          obtain ⟨x1, x2, x3, x4, x5, x6, x7, x8, y1, y2, d1, d2, d3, f1, f2, f3, g, k1, k2, l⟩ := hX.all
          refine CoX.mk ?_ ?_ ?_ ?_ ?_ ?_ ?_ ?_ ?_ ?_ (fun p hp => ?_) (fun p hp => ?_) (fun p hp => ?_) (fun p hp => ?_) (fun p hp => ?_) (fun p hp => ?_) (fun p hp => ?_) (fun p hp => ?_) (fun p hp => ?_) (fun p hp => ?_)
          · simp [up2, aKn, x1, nI_1]
          · simp [up2, aKn, x2, nI_1]
          · simp [up2, aKn, x3, nI_1]
          · rw [cutM_of (K := K) (by simp [up2, aKn]) (by intro i hi; simp [up2, aKn])]; simp [up2, x4]
          · simp [up2, aKn, x5, nI_1]
          · simp [up2, aKn, x6, nI_1]
          · simp [up2, aKn, x7, nI_1]
          · simp [up2, aKn, x8, nI_1]
          · simp [up2, aKn, y1, nI_1]
          · simp [up2, aKn, y2, nI_1]
          · have hp : p < K 0 0 := by simpa [up2, aKn] using hp
            simp [up2, aKn, d1 p hp]
          · have hp : p < K 0 0 := by simpa [up2, aKn] using hp
            simp [up2, aKn, d2 p hp]
          · by_cases hpe : p = a
            · simp [up2, aKn, hpe]
            · simp [up2, aKn, hpe, d3 p hp]
          · have hp : p < K 0 1 := by simpa [up2, aKn] using hp
            simp [up2, aKn, f1 p hp]
          · have hp : p < K 0 1 := by simpa [up2, aKn] using hp
            simp [up2, aKn, f2 p hp]
          · have hp : p < K 0 1 := by simpa [up2, aKn] using hp
            simp [up2, aKn, f3 p hp]
          · simp [up2, aKn, g p hp]
          · have hp : p < K 0 2 := by simpa [up2, aKn] using hp
            simp [up2, aKn, k1 p hp]
          · have hp : p < K 0 2 := by simpa [up2, aKn] using hp
            simp [up2, aKn, k2 p hp]
          · simp [up2, aKn, l p hp]
      · rw [decide_eq_false h2]
        refine V_if_ne_f (tgt := 27) dX3_addCover_22 (by decide) (rfl) ?_
        refine V_iconst (v := 0) dX3_addCover_25 (by decide) ?_
        refine V_ireturn dX3_addCover_26 rfl rfl rfl (by decide) (by decide) ?_
        exact Kn (by omega)
    · rw [decide_eq_false h1]
      refine V_if_eq_t (tgt := 25) dX3_addCover_14 (by decide) (rfl) ?_
      refine V_iconst (v := 0) dX3_addCover_25 (by decide) ?_
      refine V_ireturn dX3_addCover_26 rfl rfl rfl (by decide) (by decide) ?_
      exact Kn (by omega)
  · refine V_aload_n dX3_addCover_0 rfl rfl ?_
    refine V_getI dX3_addCover_1 fl_X3_56 (by first | assumption | exact ⟨by decide, rfl⟩) ?_
    refine V_bipush (v := 24) dX3_addCover_4 (by decide) ?_
    refine V_icmp_ge_t (tgt := 25) dX3_addCover_6 (by decide) (by rw [hX.1.2.2.1, e24, lit_le (by omega) (by omega)]; omega) ?_
    refine V_iconst (v := 0) dX3_addCover_25 (by decide) ?_
    refine V_ireturn dX3_addCover_26 rfl rfl rfl (by decide) (by decide) ?_
    exact Kn (by omega)
theorem sp_setContagion (hc : c = 4 ∨ c = 18) (hB : KB K) (hX : CoX I c K) {a b f : Nat} (ha : a < 2 ^ 31) (hb : b < 2 ^ 31) (hf : f < 2 ^ 31) (Kn : ¬ (a < K 0 0 ∧ b < K 0 0 ∧ a ≠ b ∧ f ≤ 100) → Post (some (.int 0)) NC I J (RR co dr cc a1 a2)) (Ks : a < K 0 0 ∧ b < K 0 0 ∧ a ≠ b ∧ f ≤ 100 → ∀ I', (∀ q z, (q < c ∨ c + 11 < q) → I' q z = I q z) → CoX I' c (aCo K a b f) → Post (some (.int 1)) NC I' J (RR co dr cc a1 a2)) : Cal E 2 M_X3_setContagion [.ref c, .int (nI a), .int (nI b), .int (nI f)] NC I J (RR co dr cc a1 a2) Post := by
  have hP := hB.1.1
  obtain ⟨_, _, _, _, _, _, _, _, _, _, _, _, _, _, _, _, _, _, _, _, _, _, _⟩ := f_co (co := co) (dr := dr) (cc := cc) (a1 := a1) (a2 := a2) (hc)
  refine Cal_of kn_X3_setContagion rfl (Nat.le_of_ble_eq_true rfl) ?_
  have e100 : (100 : Int32) = nI 100 := rfl
  have e10 : (10 : Int32) = nI 10 := rfl
  refine V_aload_n dX3_setContagion_0 rfl rfl (V_iload_n dX3_setContagion_1 rfl rfl ?_)
  refine V_cV1i (M' := M_X3_hasPlayer) (d' := 1) dX3_setContagion_2 (Or.inl ml_X3_127) kb_X3_hasPlayer (by first | assumption | exact ⟨by decide, rfl⟩) (by first | decide | omega) (by simp [Value.category]) ⟨by decide, by decide⟩ ?_
  refine sp_hasPlayer hc hX.1.1 (by omega) ⟨_, rfl, ?_⟩
  rw [inR_nI ha]
  by_cases h1 : a < K 0 0
  · rw [decide_eq_true h1]
    refine V_if_eq_f (tgt := 27) dX3_setContagion_5 (by decide) (by decide) ?_
    refine V_aload_n dX3_setContagion_8 rfl rfl (V_iload_n dX3_setContagion_9 rfl rfl ?_)
    refine V_cV1i (M' := M_X3_hasPlayer) (d' := 1) dX3_setContagion_10 (Or.inl ml_X3_127) kb_X3_hasPlayer (by first | assumption | exact ⟨by decide, rfl⟩) (by first | decide | omega) (by simp [Value.category]) ⟨by decide, by decide⟩ ?_
    refine sp_hasPlayer hc hX.1.1 (by omega) ⟨_, rfl, ?_⟩
    rw [inR_nI hb]
    by_cases h2 : b < K 0 0
    · rw [decide_eq_true h2]
      by_cases h3 : a = b
      · refine V_if_eq_f (tgt := 27) dX3_setContagion_13 (by decide) (by decide) ?_
        refine V_iload_n dX3_setContagion_16 rfl rfl (V_iload_n dX3_setContagion_17 rfl rfl ?_)
        refine V_icmp_eq_t (tgt := 27) dX3_setContagion_18 (by decide) (by rw [h3]) ?_
        refine V_iconst (v := 0) dX3_setContagion_27 (by decide) ?_
        refine V_ireturn dX3_setContagion_28 rfl rfl rfl (by decide) (by decide) ?_
        exact Kn (by omega)
      · by_cases h4 : f ≤ 100
        · refine V_if_eq_f (tgt := 27) dX3_setContagion_13 (by decide) (by decide) ?_
          refine V_iload_n dX3_setContagion_16 rfl rfl (V_iload_n dX3_setContagion_17 rfl rfl ?_)
          refine V_icmp_eq_f (tgt := 27) dX3_setContagion_18 (by decide) (fun z => h3 ((nI_eq ha hb).mp z)) ?_
          refine V_iload_n dX3_setContagion_21 rfl rfl (V_bipush (v := 100) dX3_setContagion_22 (by decide) ?_)
          refine V_icmp_le_t (tgt := 29) dX3_setContagion_24 (by decide) (by rw [e100, lit_le (by omega) (by omega)]; omega) ?_
          refine V_aload_n dX3_setContagion_29 rfl rfl ?_
          refine V_getR dX3_setContagion_30 fl_X3_40 (by first | assumption | exact ⟨by decide, rfl⟩) (by first | assumption | rfl) ?_
          refine V_iload_n dX3_setContagion_33 rfl rfl (V_bipush (v := 10) dX3_setContagion_34 (by decide) (V_imul dX3_setContagion_36 (V_iload_n dX3_setContagion_37 rfl rfl (V_iadd dX3_setContagion_38 (V_iload_n dX3_setContagion_39 rfl rfl ?_)))))
          refine V_ias dX3_setContagion_40 (by first | assumption | exact ⟨by decide, rfl⟩) ⟨(by rw [e10, pk_mul, nI_add, Nat.mul_comm]), by omega⟩ ?_
          refine V_aload_n dX3_setContagion_41 rfl rfl ?_
          refine V_getR dX3_setContagion_42 fl_X3_40 (by first | assumption | exact ⟨by decide, rfl⟩) (by first | assumption | rfl) ?_
          refine V_iload_n dX3_setContagion_45 rfl rfl (V_bipush (v := 10) dX3_setContagion_46 (by decide) (V_imul dX3_setContagion_48 (V_iload_n dX3_setContagion_49 rfl rfl (V_iadd dX3_setContagion_50 (V_iload_n dX3_setContagion_51 rfl rfl ?_)))))
          refine V_ias dX3_setContagion_52 (by first | assumption | exact ⟨by decide, rfl⟩) ⟨(by rw [e10, pk_mul, nI_add, Nat.mul_comm]), by omega⟩ ?_
          refine V_iconst (v := 1) dX3_setContagion_53 (by decide) ?_
          refine V_ireturn dX3_setContagion_54 rfl rfl rfl (by decide) (by decide) ?_
          refine Ks ⟨h1, h2, h3, h4⟩ _ (fun q z hq => ?_) ?_
          · rw [u2n (by omega), u2n (by omega)]
          · obtain ⟨x1, x2, x3, x4, x5, x6, x7, x8, y1, y2, d1, d2, d3, f1, f2, f3, g, k1, k2, l⟩ := hX.all
            refine CoX.mk ?_ ?_ ?_ ?_ ?_ ?_ ?_ ?_ ?_ ?_ (fun p hp => ?_) (fun p hp => ?_) (fun p hp => ?_) (fun p hp => ?_) (fun p hp => ?_) (fun p hp => ?_) (fun p hp => ?_) (fun p hp => ?_) (fun p hp => ?_) (fun p hp => ?_)
            · simp [up2, aCo, x1, nI_1]
            · simp [up2, aCo, x2, nI_1]
            · simp [up2, aCo, x3, nI_1]
            · rw [cutM_of (K := K) (by simp [up2, aCo]) (by intro i hi; simp [up2, aCo])]; simp [up2, x4]
            · simp [up2, aCo, x5, nI_1]
            · simp [up2, aCo, x6, nI_1]
            · simp [up2, aCo, x7, nI_1]
            · simp [up2, aCo, x8, nI_1]
            · simp [up2, aCo, y1, nI_1]
            · simp [up2, aCo, y2, nI_1]
            · have hp : p < K 0 0 := by simpa [up2, aCo] using hp
              simp [up2, aCo, d1 p hp]
            · have hp : p < K 0 0 := by simpa [up2, aCo] using hp
              simp [up2, aCo, d2 p hp]
            · simp [up2, aCo, d3 p hp]
            · have hp : p < K 0 1 := by simpa [up2, aCo] using hp
              simp [up2, aCo, f1 p hp]
            · have hp : p < K 0 1 := by simpa [up2, aCo] using hp
              simp [up2, aCo, f2 p hp]
            · have hp : p < K 0 1 := by simpa [up2, aCo] using hp
              simp [up2, aCo, f3 p hp]
            · simp [up2, aCo, g p hp]
            · have hp : p < K 0 2 := by simpa [up2, aCo] using hp
              simp [up2, aCo, k1 p hp]
            · have hp : p < K 0 2 := by simpa [up2, aCo] using hp
              simp [up2, aCo, k2 p hp]
            · by_cases hpe : p = 10 * b + a <;> by_cases hpf : p = 10 * a + b <;> simp [up2, aCo, hpe, hpf, l p hp]
        · refine V_if_eq_f (tgt := 27) dX3_setContagion_13 (by decide) (by decide) ?_
          refine V_iload_n dX3_setContagion_16 rfl rfl (V_iload_n dX3_setContagion_17 rfl rfl ?_)
          refine V_icmp_eq_f (tgt := 27) dX3_setContagion_18 (by decide) (fun z => h3 ((nI_eq ha hb).mp z)) ?_
          refine V_iload_n dX3_setContagion_21 rfl rfl (V_bipush (v := 100) dX3_setContagion_22 (by decide) ?_)
          refine V_icmp_le_f (tgt := 29) dX3_setContagion_24 (by decide) (by rw [e100, lit_le (by omega) (by omega)]; omega) ?_
          refine V_iconst (v := 0) dX3_setContagion_27 (by decide) ?_
          refine V_ireturn dX3_setContagion_28 rfl rfl rfl (by decide) (by decide) ?_
          exact Kn (by omega)
    · rw [decide_eq_false h2]
      refine V_if_eq_t (tgt := 27) dX3_setContagion_13 (by decide) (rfl) ?_
      refine V_iconst (v := 0) dX3_setContagion_27 (by decide) ?_
      refine V_ireturn dX3_setContagion_28 rfl rfl rfl (by decide) (by decide) ?_
      exact Kn (by omega)
  · rw [decide_eq_false h1]
    refine V_if_eq_t (tgt := 27) dX3_setContagion_5 (by decide) (rfl) ?_
    refine V_iconst (v := 0) dX3_setContagion_27 (by decide) ?_
    refine V_ireturn dX3_setContagion_28 rfl rfl rfl (by decide) (by decide) ?_
    exact Kn (by omega)
theorem sp_setChange (hc : c = 4 ∨ c = 18) (hX : CoX I c K) {a : Nat} (ha : a < 2 ^ 31) (Kn : ¬ (a ≤ 99) → Post (some (.int 0)) NC I J (RR co dr cc a1 a2)) (Ks : a ≤ 99 → ∀ I', (∀ q z, (q < c ∨ c + 11 < q) → I' q z = I q z) → CoX I' c (up2 K 0 4 a) → Post (some (.int 1)) NC I' J (RR co dr cc a1 a2)) : Cal E 1 M_X3_setChange [.ref c, .int (nI a)] NC I J (RR co dr cc a1 a2) Post := by
  obtain ⟨_, _, _, _, _, _, _, _, _, _, _, _, _, _, _, _, _, _, _, _, _, _, _⟩ := f_co (co := co) (dr := dr) (cc := cc) (a1 := a1) (a2 := a2) (hc)
  obtain ⟨_, _, _, _, _⟩ := f_pl (co := co) (dr := dr) (cc := cc) (a1 := a1) (a2 := a2) (co_pl hc)
  refine Cal_of kn_X3_setChange rfl (Nat.le_of_ble_eq_true rfl) ?_
  have e99 : (99 : Int32) = nI 99 := rfl
  by_cases h1 : a ≤ 99
  · refine V_iload_n dX3_setChange_0 rfl rfl (V_bipush (v := 99) dX3_setChange_1 (by decide) ?_)
    refine V_icmp_le_t (tgt := 8) dX3_setChange_3 (by decide) (by rw [e99, lit_le (by omega) (by omega)]; omega) ?_
    refine V_aload_n dX3_setChange_8 rfl rfl ?_
    refine V_getR dX3_setChange_9 fl_X3_36 (by first | assumption | exact ⟨by decide, rfl⟩) (by first | assumption | rfl) ?_
    refine V_iload_n dX3_setChange_12 rfl rfl ?_
    refine V_putI dX3_setChange_13 fl_X3_133 (by first | assumption | exact ⟨by decide, rfl⟩) ?_
    refine V_iconst (v := 1) dX3_setChange_16 (by decide) ?_
    refine V_ireturn dX3_setChange_17 rfl rfl rfl (by decide) (by decide) ?_
    refine Ks h1 _ (fun q z hq => ?_) ?_
    · rw [u2n (by omega)]
    · obtain ⟨x1, x2, x3, x4, x5, x6, x7, x8, y1, y2, d1, d2, d3, f1, f2, f3, g, k1, k2, l⟩ := hX.all
      refine CoX.mk ?_ ?_ ?_ ?_ ?_ ?_ ?_ ?_ ?_ ?_ (fun p hp => ?_) (fun p hp => ?_) (fun p hp => ?_) (fun p hp => ?_) (fun p hp => ?_) (fun p hp => ?_) (fun p hp => ?_) (fun p hp => ?_) (fun p hp => ?_) (fun p hp => ?_)
      · simp [up2, and_self, x1, nI_1]
      · simp [up2, and_self, x2, nI_1]
      · simp [up2, and_self, x3, nI_1]
      · rw [cutM_of (K := K) (by simp [up2, and_self]) (by intro i hi; simp [up2, and_self])]; simp [up2, x4]
      · simp [up2, and_self, x5, nI_1]
      · simp [up2, and_self, x6, nI_1]
      · simp [up2, and_self, x7, nI_1]
      · simp [up2, and_self, x8, nI_1]
      · simp [up2, and_self, y1, nI_1]
      · simp [up2, and_self, y2, nI_1]
      · have hp : p < K 0 0 := by simpa [up2, and_self] using hp
        simp [up2, and_self, d1 p hp]
      · have hp : p < K 0 0 := by simpa [up2, and_self] using hp
        simp [up2, and_self, d2 p hp]
      · simp [up2, and_self, d3 p hp]
      · have hp : p < K 0 1 := by simpa [up2, and_self] using hp
        simp [up2, and_self, f1 p hp]
      · have hp : p < K 0 1 := by simpa [up2, and_self] using hp
        simp [up2, and_self, f2 p hp]
      · have hp : p < K 0 1 := by simpa [up2, and_self] using hp
        simp [up2, and_self, f3 p hp]
      · simp [up2, and_self, g p hp]
      · have hp : p < K 0 2 := by simpa [up2, and_self] using hp
        simp [up2, and_self, k1 p hp]
      · have hp : p < K 0 2 := by simpa [up2, and_self] using hp
        simp [up2, and_self, k2 p hp]
      · simp [up2, and_self, l p hp]
  · refine V_iload_n dX3_setChange_0 rfl rfl (V_bipush (v := 99) dX3_setChange_1 (by decide) ?_)
    refine V_icmp_le_f (tgt := 8) dX3_setChange_3 (by decide) (by rw [e99, lit_le (by omega) (by omega)]; omega) ?_
    refine V_iconst (v := 0) dX3_setChange_6 (by decide) ?_
    refine V_ireturn dX3_setChange_7 rfl rfl rfl (by decide) (by decide) ?_
    exact Kn h1
theorem sp_setTailor (hc : c = 4 ∨ c = 18) (hX : CoX I c K) {a : Nat} (ha : a < 2 ^ 31) (Kn : ¬ (a ≤ 9) → Post (some (.int 0)) NC I J (RR co dr cc a1 a2)) (Ks : a ≤ 9 → ∀ I', (∀ q z, (q < c ∨ c + 11 < q) → I' q z = I q z) → CoX I' c (up2 K 0 5 a) → Post (some (.int 1)) NC I' J (RR co dr cc a1 a2)) : Cal E 1 M_X3_setTailor [.ref c, .int (nI a)] NC I J (RR co dr cc a1 a2) Post := by
  obtain ⟨_, _, _, _, _, _, _, _, _, _, _, _, _, _, _, _, _, _, _, _, _, _, _⟩ := f_co (co := co) (dr := dr) (cc := cc) (a1 := a1) (a2 := a2) (hc)
  refine Cal_of kn_X3_setTailor rfl (Nat.le_of_ble_eq_true rfl) ?_
  have e99 : (9 : Int32) = nI 9 := rfl
  by_cases h1 : a ≤ 9
  · refine V_iload_n dX3_setTailor_0 rfl rfl (V_bipush (v := 9) dX3_setTailor_1 (by decide) ?_)
    refine V_icmp_le_t (tgt := 8) dX3_setTailor_3 (by decide) (by rw [e99, lit_le (by omega) (by omega)]; omega) ?_
    refine V_aload_n dX3_setTailor_8 rfl rfl (V_iload_n dX3_setTailor_9 rfl rfl ?_)
    refine V_putI dX3_setTailor_10 fl_X3_71 (by first | assumption | exact ⟨by decide, rfl⟩) ?_
    refine V_iconst (v := 1) dX3_setTailor_13 (by decide) ?_
    refine V_ireturn dX3_setTailor_14 rfl rfl rfl (by decide) (by decide) ?_
    refine Ks h1 _ (fun q z hq => ?_) ?_
    · rw [u2n (by omega)]
    · obtain ⟨x1, x2, x3, x4, x5, x6, x7, x8, y1, y2, d1, d2, d3, f1, f2, f3, g, k1, k2, l⟩ := hX.all
      refine CoX.mk ?_ ?_ ?_ ?_ ?_ ?_ ?_ ?_ ?_ ?_ (fun p hp => ?_) (fun p hp => ?_) (fun p hp => ?_) (fun p hp => ?_) (fun p hp => ?_) (fun p hp => ?_) (fun p hp => ?_) (fun p hp => ?_) (fun p hp => ?_) (fun p hp => ?_)
      · simp [up2, and_self, x1, nI_1]
      · simp [up2, and_self, x2, nI_1]
      · simp [up2, and_self, x3, nI_1]
      · rw [cutM_of (K := K) (by simp [up2, and_self]) (by intro i hi; simp [up2, and_self])]; simp [up2, x4]
      · simp [up2, and_self, x5, nI_1]
      · simp [up2, and_self, x6, nI_1]
      · simp [up2, and_self, x7, nI_1]
      · simp [up2, and_self, x8, nI_1]
      · simp [up2, and_self, y1, nI_1]
      · simp [up2, and_self, y2, nI_1]
      · have hp : p < K 0 0 := by simpa [up2, and_self] using hp
        simp [up2, and_self, d1 p hp]
      · have hp : p < K 0 0 := by simpa [up2, and_self] using hp
        simp [up2, and_self, d2 p hp]
      · simp [up2, and_self, d3 p hp]
      · have hp : p < K 0 1 := by simpa [up2, and_self] using hp
        simp [up2, and_self, f1 p hp]
      · have hp : p < K 0 1 := by simpa [up2, and_self] using hp
        simp [up2, and_self, f2 p hp]
      · have hp : p < K 0 1 := by simpa [up2, and_self] using hp
        simp [up2, and_self, f3 p hp]
      · simp [up2, and_self, g p hp]
      · have hp : p < K 0 2 := by simpa [up2, and_self] using hp
        simp [up2, and_self, k1 p hp]
      · have hp : p < K 0 2 := by simpa [up2, and_self] using hp
        simp [up2, and_self, k2 p hp]
      · simp [up2, and_self, l p hp]
  · refine V_iload_n dX3_setTailor_0 rfl rfl (V_bipush (v := 9) dX3_setTailor_1 (by decide) ?_)
    refine V_icmp_le_f (tgt := 8) dX3_setTailor_3 (by decide) (by rw [e99, lit_le (by omega) (by omega)]; omega) ?_
    refine V_iconst (v := 0) dX3_setTailor_6 (by decide) ?_
    refine V_ireturn dX3_setTailor_7 rfl rfl rfl (by decide) (by decide) ?_
    exact Kn h1
theorem sp_setForgetting (hc : c = 4 ∨ c = 18) (hX : CoX I c K) {a : Nat} (ha : a < 2 ^ 31) (Kn : ¬ (a ≤ 99) → Post (some (.int 0)) NC I J (RR co dr cc a1 a2)) (Ks : a ≤ 99 → ∀ I', (∀ q z, (q < c ∨ c + 11 < q) → I' q z = I q z) → CoX I' c (up2 K 0 6 a) → Post (some (.int 1)) NC I' J (RR co dr cc a1 a2)) : Cal E 1 M_X3_setForgetting [.ref c, .int (nI a)] NC I J (RR co dr cc a1 a2) Post := by
  obtain ⟨_, _, _, _, _, _, _, _, _, _, _, _, _, _, _, _, _, _, _, _, _, _, _⟩ := f_co (co := co) (dr := dr) (cc := cc) (a1 := a1) (a2 := a2) (hc)
  refine Cal_of kn_X3_setForgetting rfl (Nat.le_of_ble_eq_true rfl) ?_
  have e99 : (99 : Int32) = nI 99 := rfl
  by_cases h1 : a ≤ 99
  · refine V_iload_n dX3_setForgetting_0 rfl rfl (V_bipush (v := 99) dX3_setForgetting_1 (by decide) ?_)
    refine V_icmp_le_t (tgt := 8) dX3_setForgetting_3 (by decide) (by rw [e99, lit_le (by omega) (by omega)]; omega) ?_
    refine V_aload_n dX3_setForgetting_8 rfl rfl (V_iload_n dX3_setForgetting_9 rfl rfl ?_)
    refine V_putI dX3_setForgetting_10 fl_X3_74 (by first | assumption | exact ⟨by decide, rfl⟩) ?_
    refine V_iconst (v := 1) dX3_setForgetting_13 (by decide) ?_
    refine V_ireturn dX3_setForgetting_14 rfl rfl rfl (by decide) (by decide) ?_
    refine Ks h1 _ (fun q z hq => ?_) ?_
    · rw [u2n (by omega)]
    · obtain ⟨x1, x2, x3, x4, x5, x6, x7, x8, y1, y2, d1, d2, d3, f1, f2, f3, g, k1, k2, l⟩ := hX.all
      refine CoX.mk ?_ ?_ ?_ ?_ ?_ ?_ ?_ ?_ ?_ ?_ (fun p hp => ?_) (fun p hp => ?_) (fun p hp => ?_) (fun p hp => ?_) (fun p hp => ?_) (fun p hp => ?_) (fun p hp => ?_) (fun p hp => ?_) (fun p hp => ?_) (fun p hp => ?_)
      · simp [up2, and_self, x1, nI_1]
      · simp [up2, and_self, x2, nI_1]
      · simp [up2, and_self, x3, nI_1]
      · rw [cutM_of (K := K) (by simp [up2, and_self]) (by intro i hi; simp [up2, and_self])]; simp [up2, x4]
      · simp [up2, and_self, x5, nI_1]
      · simp [up2, and_self, x6, nI_1]
      · simp [up2, and_self, x7, nI_1]
      · simp [up2, and_self, x8, nI_1]
      · simp [up2, and_self, y1, nI_1]
      · simp [up2, and_self, y2, nI_1]
      · have hp : p < K 0 0 := by simpa [up2, and_self] using hp
        simp [up2, and_self, d1 p hp]
      · have hp : p < K 0 0 := by simpa [up2, and_self] using hp
        simp [up2, and_self, d2 p hp]
      · simp [up2, and_self, d3 p hp]
      · have hp : p < K 0 1 := by simpa [up2, and_self] using hp
        simp [up2, and_self, f1 p hp]
      · have hp : p < K 0 1 := by simpa [up2, and_self] using hp
        simp [up2, and_self, f2 p hp]
      · have hp : p < K 0 1 := by simpa [up2, and_self] using hp
        simp [up2, and_self, f3 p hp]
      · simp [up2, and_self, g p hp]
      · have hp : p < K 0 2 := by simpa [up2, and_self] using hp
        simp [up2, and_self, k1 p hp]
      · have hp : p < K 0 2 := by simpa [up2, and_self] using hp
        simp [up2, and_self, k2 p hp]
      · simp [up2, and_self, l p hp]
  · refine V_iload_n dX3_setForgetting_0 rfl rfl (V_bipush (v := 99) dX3_setForgetting_1 (by decide) ?_)
    refine V_icmp_le_f (tgt := 8) dX3_setForgetting_3 (by decide) (by rw [e99, lit_le (by omega) (by omega)]; omega) ?_
    refine V_iconst (v := 0) dX3_setForgetting_6 (by decide) ?_
    refine V_ireturn dX3_setForgetting_7 rfl rfl rfl (by decide) (by decide) ?_
    exact Kn h1
theorem sp_setPay (hc : c = 4 ∨ c = 18) (hX : CoX I c K) {a b : Nat} (ha : a ≤ 999) (hb : b < 2 ^ 31) (Kn : ¬ (b ≤ 99) → Post (some (.int 0)) NC I J (RR co dr cc a1 a2)) (Ks : b ≤ 99 → ∀ I', (∀ q z, (q < c ∨ c + 11 < q) → I' q z = I q z) → CoX I' c (aPy K a b) → Post (some (.int 1)) NC I' J (RR co dr cc a1 a2)) : Cal E 1 M_X3_setPay [.ref c, .int (nI a), .int (nI b)] NC I J (RR co dr cc a1 a2) Post := by
  obtain ⟨_, _, _, _, _, _, _, _, _, _, _, _, _, _, _, _, _, _, _, _, _, _, _⟩ := f_co (co := co) (dr := dr) (cc := cc) (a1 := a1) (a2 := a2) (hc)
  refine Cal_of kn_X3_setPay rfl (Nat.le_of_ble_eq_true rfl) ?_
  have e99 : (99 : Int32) = nI 99 := rfl
  have e999 : (999 : Int32) = nI 999 := rfl
  by_cases h1 : b ≤ 99
  · refine V_iload_n dX3_setPay_0 rfl rfl (V_sipush (v := 999) dX3_setPay_1 (by decide) ?_)
    refine V_icmp_gt_f (tgt := 13) dX3_setPay_4 (by decide) (by rw [e999, lit_lt (by omega) (by omega)]; omega) ?_
    refine V_iload_n dX3_setPay_7 rfl rfl (V_bipush (v := 99) dX3_setPay_8 (by decide) ?_)
    refine V_icmp_le_t (tgt := 15) dX3_setPay_10 (by decide) (by rw [e99, lit_le (by omega) (by omega)]; omega) ?_
    refine V_aload_n dX3_setPay_15 rfl rfl (V_iload_n dX3_setPay_16 rfl rfl ?_)
    refine V_putI dX3_setPay_17 fl_X3_77 (by first | assumption | exact ⟨by decide, rfl⟩) ?_
    refine V_aload_n dX3_setPay_20 rfl rfl (V_iload_n dX3_setPay_21 rfl rfl ?_)
    refine V_putI dX3_setPay_22 fl_X3_80 (by first | assumption | exact ⟨by decide, rfl⟩) ?_
    refine V_iconst (v := 1) dX3_setPay_25 (by decide) ?_
    refine V_ireturn dX3_setPay_26 rfl rfl rfl (by decide) (by decide) ?_
    refine Ks h1 _ (fun q z hq => ?_) ?_
    · rw [u2n (by omega), u2n (by omega)]
    · obtain ⟨x1, x2, x3, x4, x5, x6, x7, x8, y1, y2, d1, d2, d3, f1, f2, f3, g, k1, k2, l⟩ := hX.all
      refine CoX.mk ?_ ?_ ?_ ?_ ?_ ?_ ?_ ?_ ?_ ?_ (fun p hp => ?_) (fun p hp => ?_) (fun p hp => ?_) (fun p hp => ?_) (fun p hp => ?_) (fun p hp => ?_) (fun p hp => ?_) (fun p hp => ?_) (fun p hp => ?_) (fun p hp => ?_)
      · simp [up2, aPy, x1, nI_1]
      · simp [up2, aPy, x2, nI_1]
      · simp [up2, aPy, x3, nI_1]
      · rw [cutM_of (K := K) (by simp [up2, aPy]) (by intro i hi; simp [up2, aPy])]; simp [up2, x4]
      · simp [up2, aPy, x5, nI_1]
      · simp [up2, aPy, x6, nI_1]
      · simp [up2, aPy, x7, nI_1]
      · simp [up2, aPy, x8, nI_1]
      · simp [up2, aPy, y1, nI_1]
      · simp [up2, aPy, y2, nI_1]
      · have hp : p < K 0 0 := by simpa [up2, aPy] using hp
        simp [up2, aPy, d1 p hp]
      · have hp : p < K 0 0 := by simpa [up2, aPy] using hp
        simp [up2, aPy, d2 p hp]
      · simp [up2, aPy, d3 p hp]
      · have hp : p < K 0 1 := by simpa [up2, aPy] using hp
        simp [up2, aPy, f1 p hp]
      · have hp : p < K 0 1 := by simpa [up2, aPy] using hp
        simp [up2, aPy, f2 p hp]
      · have hp : p < K 0 1 := by simpa [up2, aPy] using hp
        simp [up2, aPy, f3 p hp]
      · simp [up2, aPy, g p hp]
      · have hp : p < K 0 2 := by simpa [up2, aPy] using hp
        simp [up2, aPy, k1 p hp]
      · have hp : p < K 0 2 := by simpa [up2, aPy] using hp
        simp [up2, aPy, k2 p hp]
      · simp [up2, aPy, l p hp]
  · refine V_iload_n dX3_setPay_0 rfl rfl (V_sipush (v := 999) dX3_setPay_1 (by decide) ?_)
    refine V_icmp_gt_f (tgt := 13) dX3_setPay_4 (by decide) (by rw [e999, lit_lt (by omega) (by omega)]; omega) ?_
    refine V_iload_n dX3_setPay_7 rfl rfl (V_bipush (v := 99) dX3_setPay_8 (by decide) ?_)
    refine V_icmp_le_f (tgt := 15) dX3_setPay_10 (by decide) (by rw [e99, lit_le (by omega) (by omega)]; omega) ?_
    refine V_iconst (v := 0) dX3_setPay_13 (by decide) ?_
    refine V_ireturn dX3_setPay_14 rfl rfl rfl (by decide) (by decide) ?_
    exact Kn h1
end
