/-! The other takings of items -/
theorem CoX.mk {I : TI} {c : Nat} {K : KT} (h1 : I c 0 = nI (K 0 0)) (h2 : I c 1 = nI (K 0 1)) (h3 : I c 2 = nI (K 0 3)) (h4 : I c 10 = nI (cutM K)) (h5 : I c 13 = nI (K 0 5)) (h6 : I c 14 = nI (K 0 6)) (h7 : I c 15 = nI (K 0 7)) (h8 : I c 16 = nI (K 0 8)) (h9 : I (c + 8) 0 = nI (K 0 2)) (h10 : I (c + 8) 1 = nI (K 0 4)) (d1 : ∀ p, p < K 0 0 → I (c + 1) p = nI (K 1 p)) (d2 : ∀ p, p < K 0 0 → I (c + 2) p = nI (K 2 p)) (d3 : ∀ p, p < 10 → I (c + 3) p = nI (K 3 p)) (f1 : ∀ i, i < K 0 1 → I (c + 4) i = nI (K 4 i)) (f2 : ∀ i, i < K 0 1 → I (c + 5) i = nI (K 5 i)) (f3 : ∀ i, i < K 0 1 → I (c + 6) i = nI (K 6 i)) (g : ∀ i, i < 8 → I (c + 7) i = owv (K 7 i)) (k1 : ∀ s, s < K 0 2 → I (c + 9) s = nI (K 9 s)) (k2 : ∀ s, s < K 0 2 → I (c + 10) s = nI (K 10 s)) (l : ∀ j, j < 100 → I (c + 11) j = nI (K 11 j)) : CoX I c K :=
  ⟨⟨h1, h2, h3, h4, h5, h6, h7, h8⟩, ⟨h9, h10⟩, fun p hp => ⟨d1 p hp, d2 p hp⟩, d3, fun i hi => ⟨f1 i hi, f2 i hi, f3 i hi⟩, g, fun s hs => ⟨k1 s hs, k2 s hs⟩, l⟩
theorem CoX.all {I : TI} {c : Nat} {K : KT} (h : CoX I c K) : I c 0 = nI (K 0 0) ∧ I c 1 = nI (K 0 1) ∧ I c 2 = nI (K 0 3) ∧ I c 10 = nI (cutM K) ∧ I c 13 = nI (K 0 5) ∧ I c 14 = nI (K 0 6) ∧ I c 15 = nI (K 0 7) ∧ I c 16 = nI (K 0 8) ∧ I (c + 8) 0 = nI (K 0 2) ∧ I (c + 8) 1 = nI (K 0 4) ∧ (∀ p, p < K 0 0 → I (c + 1) p = nI (K 1 p)) ∧ (∀ p, p < K 0 0 → I (c + 2) p = nI (K 2 p)) ∧ (∀ p, p < 10 → I (c + 3) p = nI (K 3 p)) ∧ (∀ i, i < K 0 1 → I (c + 4) i = nI (K 4 i)) ∧ (∀ i, i < K 0 1 → I (c + 5) i = nI (K 5 i)) ∧ (∀ i, i < K 0 1 → I (c + 6) i = nI (K 6 i)) ∧ (∀ i, i < 8 → I (c + 7) i = owv (K 7 i)) ∧ (∀ s, s < K 0 2 → I (c + 9) s = nI (K 9 s)) ∧ (∀ s, s < K 0 2 → I (c + 10) s = nI (K 10 s)) ∧ (∀ j, j < 100 → I (c + 11) j = nI (K 11 j)) := by
  obtain ⟨⟨x1, x2, x3, x4, x5, x6, x7, x8⟩, ⟨y1, y2⟩, d, e, f, g, k, l⟩ := h
  exact ⟨x1, x2, x3, x4, x5, x6, x7, x8, y1, y2, fun p hp => (d p hp).1, fun p hp => (d p hp).2, e, fun i hi => (f i hi).1, fun i hi => (f i hi).2.1, fun i hi => (f i hi).2.2, g, fun s hs => (k s hs).1, fun s hs => (k s hs).2, l⟩
theorem cutM_of {K K' : KT} (h1 : K' 0 1 = K 0 1) (h8 : ∀ i, i < K 0 1 → K' 8 i = K 8 i) : cutM K' = cutM K := by
  unfold cutM
  rw [h1]
  exact mk_ext (fun i hi => by rw [h8 i hi])
section
variable {E : En} {I : TI} {J : TJ} {co dr : Nat} {cc a1 a2 : Option Nat} {Post : PT} {c : Nat} {K : KT}
theorem sp_addPart (hc : c = 4 ∨ c = 18) (hB : KB K) (hX : CoX I c K) {a b f d : Nat} (ha : a < 2 ^ 31) (hb : b < 2 ^ 31) (hf : f ≤ 999) (hd : d < 2 ^ 31) (Kn : ¬ (K 0 1 < 8 ∧ a ≤ 99 ∧ b ≤ 15 ∧ 1 ≤ f ∧ d ≤ 1) → Post (some (.int 0)) NC I J (RR co dr cc a1 a2)) (Ks : K 0 1 < 8 ∧ a ≤ 99 ∧ b ≤ 15 ∧ 1 ≤ f ∧ d ≤ 1 → ∀ I', (∀ q z, (q < c ∨ c + 11 < q) → I' q z = I q z) → CoX I' c (aPa K a b f d) → Post (some (.int 1)) NC I' J (RR co dr cc a1 a2)) : Cal E 1 M_X3_addPart [.ref c, .int (nI a), .int (nI b), .int (nI f), .int (nI d)] NC I J (RR co dr cc a1 a2) Post := by
  have hQ := hB.1.2.1
  obtain ⟨_, _, _, _, _, _, _, _, _, _, _, _, _, _, _, _, _, _, _, _, _, _, _⟩ := f_co (co := co) (dr := dr) (cc := cc) (a1 := a1) (a2 := a2) (hc)
  refine Cal_of kn_X3_addPart rfl (Nat.le_of_ble_eq_true rfl) ?_
  have e8 : (8 : Int32) = nI 8 := rfl
  have e99 : (99 : Int32) = nI 99 := rfl
  have e15 : (15 : Int32) = nI 15 := rfl
  have e1 : (1 : Int32) = nI 1 := rfl
  have e999 : (999 : Int32) = nI 999 := rfl
  have hx1 := hX.1.2.1
  by_cases h1 : K 0 1 < 8
  · by_cases h2 : a ≤ 99
    · by_cases h3 : b ≤ 15
      · by_cases h4 : 1 ≤ f
        · by_cases h5 : d ≤ 1
          · refine V_aload_n dX3_addPart_0 rfl rfl ?_
            refine V_getI dX3_addPart_1 fl_X3_53 (by first | assumption | exact ⟨by decide, rfl⟩) ?_
            refine V_bipush (v := 8) dX3_addPart_4 (by decide) ?_
            refine V_icmp_ge_f (tgt := 39) dX3_addPart_6 (by decide) (by rw [hx1, e8, lit_le (by omega) (by omega)]; omega) ?_
            refine V_iload_n dX3_addPart_9 rfl rfl (V_bipush (v := 99) dX3_addPart_10 (by decide) ?_)
            refine V_icmp_gt_f (tgt := 39) dX3_addPart_12 (by decide) (by rw [e99, lit_lt (by omega) (by omega)]; omega) ?_
            refine V_iload_n dX3_addPart_15 rfl rfl (V_bipush (v := 15) dX3_addPart_16 (by decide) ?_)
            refine V_icmp_gt_f (tgt := 39) dX3_addPart_18 (by decide) (by rw [e15, lit_lt (by omega) (by omega)]; omega) ?_
            refine V_iload_n dX3_addPart_21 rfl rfl (V_iconst (v := 1) dX3_addPart_22 (by decide) ?_)
            refine V_icmp_lt_f (tgt := 39) dX3_addPart_23 (by decide) (by rw [e1, lit_lt (by omega) (by omega)]; omega) ?_
            refine V_iload_n dX3_addPart_26 rfl rfl (V_sipush (v := 999) dX3_addPart_27 (by decide) ?_)
            refine V_icmp_gt_f (tgt := 39) dX3_addPart_30 (by decide) (by rw [e999, lit_lt (by omega) (by omega)]; omega) ?_
            refine V_iload dX3_addPart_33 rfl (V_iconst (v := 1) dX3_addPart_35 (by decide) ?_)
            refine V_icmp_le_t (tgt := 41) dX3_addPart_36 (by decide) (by rw [e1, lit_le (by omega) (by omega)]; omega) ?_
            refine V_aload_n dX3_addPart_41 rfl rfl ?_
            refine V_getR dX3_addPart_42 fl_X3_21 (by first | assumption | exact ⟨by decide, rfl⟩) (by first | assumption | rfl) ?_
            refine V_aload_n dX3_addPart_45 rfl rfl ?_
            refine V_getI dX3_addPart_46 fl_X3_53 (by first | assumption | exact ⟨by decide, rfl⟩) ?_
            refine V_iload_n dX3_addPart_49 rfl rfl ?_
            refine V_ias dX3_addPart_50 (by first | assumption | exact ⟨by decide, rfl⟩) ⟨hx1, by omega⟩ ?_
            refine V_aload_n dX3_addPart_51 rfl rfl ?_
            refine V_getR dX3_addPart_52 fl_X3_24 (by first | assumption | exact ⟨by decide, rfl⟩) (by first | assumption | rfl) ?_
            refine V_aload_n dX3_addPart_55 rfl rfl ?_
            refine V_getI dX3_addPart_56 fl_X3_53 (by first | assumption | exact ⟨by decide, rfl⟩) ?_
            refine V_iload_n dX3_addPart_59 rfl rfl ?_
            refine V_ias dX3_addPart_60 (by first | assumption | exact ⟨by decide, rfl⟩) ⟨(by rw [u2n (by omega)]; exact hx1), by omega⟩ ?_
            refine V_aload_n dX3_addPart_61 rfl rfl ?_
            refine V_getR dX3_addPart_62 fl_X3_27 (by first | assumption | exact ⟨by decide, rfl⟩) (by first | assumption | rfl) ?_
            refine V_aload_n dX3_addPart_65 rfl rfl ?_
            refine V_getI dX3_addPart_66 fl_X3_53 (by first | assumption | exact ⟨by decide, rfl⟩) ?_
            refine V_iload_n dX3_addPart_69 rfl rfl ?_
            refine V_ias dX3_addPart_70 (by first | assumption | exact ⟨by decide, rfl⟩) ⟨(by rw [u2n (by omega), u2n (by omega)]; exact hx1), by omega⟩ ?_
            refine V_aload_n dX3_addPart_71 rfl rfl (V_dup dX3_addPart_72 rfl ?_)
            refine V_getI dX3_addPart_73 fl_X3_59 (by first | assumption | exact ⟨by decide, rfl⟩) ?_
            refine V_iload dX3_addPart_76 rfl (V_aload_n dX3_addPart_78 rfl rfl ?_)
            refine V_getI dX3_addPart_79 fl_X3_53 (by first | assumption | exact ⟨by decide, rfl⟩) ?_
            refine V_ishl dX3_addPart_82 (V_ior dX3_addPart_83 ?_)
            refine V_putI dX3_addPart_84 fl_X3_59 (by first | assumption | exact ⟨by decide, rfl⟩) ?_
            refine V_aload_n dX3_addPart_87 rfl rfl (V_dup dX3_addPart_88 rfl ?_)
            refine V_getI dX3_addPart_89 fl_X3_53 (by first | assumption | exact ⟨by decide, rfl⟩) ?_
            refine V_iconst (v := 1) dX3_addPart_92 (by decide) (V_iadd dX3_addPart_93 ?_)
            refine V_putI dX3_addPart_94 fl_X3_53 (by first | assumption | exact ⟨by decide, rfl⟩) ?_
            refine V_iconst (v := 1) dX3_addPart_97 (by decide) ?_
            refine V_ireturn dX3_addPart_98 rfl rfl rfl (by decide) (by decide) ?_
            refine Ks ⟨h1, h2, h3, h4, h5⟩ _ (fun q z hq => ?_) ?_
            · rw [u2n (by omega), u2n (by omega), u2n (by omega), u2n (by omega), u2n (by omega)]
            · obtain ⟨x1, x2, x3, x4, x5, x6, x7, x8, y1, y2, d1, d2, d3, f1, f2, f3, g, k1, k2, l⟩ := hX.all
              have ec : nI (cutM K) ||| (nI d <<< (nI (K 0 1) &&& 31)) = nI (cutM (aPa K a b f d)) := by
                have q1 : aPa K a b f d 0 1 = K 0 1 + 1 := by simp [aPa, up2]
                have q2 : aPa K a b f d 8 (K 0 1) = d := by simp [aPa, up2]
                have q3 : ∀ i, i < K 0 1 → aPa K a b f d 8 i = K 8 i := fun i hi => by
                  have : i ≠ K 0 1 := by omega
                  simp [aPa, up2, this]
                have e9 : cutM (aPa K a b f d) = (if d = 1 then cutM K ||| 2 ^ K 0 1 else cutM K) := by
                  unfold cutM
                  rw [q1]
                  show (if decide (aPa K a b f d 8 (K 0 1) = 1) = true then mk _ (K 0 1) ||| 2 ^ K 0 1 else mk _ (K 0 1)) = _
                  rw [q2, mk_ext (f := fun i => decide (aPa K a b f d 8 i = 1)) (g := fun i => decide (K 8 i = 1)) (fun i hi => by rw [q3 i hi])]
                  simp
                rw [shl_nI (by omega) (by have : 2 ^ K 0 1 < 2 ^ 8 := Nat.pow_lt_pow_right (by decide) h1; have : d * 2 ^ K 0 1 ≤ 1 * 2 ^ K 0 1 := Nat.mul_le_mul_right _ h5; omega), or_nI, e9]
                rcases (show d = 0 ∨ d = 1 by omega) with rfl | rfl
                · simp
                · simp
              refine CoX.mk ?_ ?_ ?_ ?_ ?_ ?_ ?_ ?_ ?_ ?_ (fun p hp => ?_) (fun p hp => ?_) (fun p hp => ?_) (fun p hp => ?_) (fun p hp => ?_) (fun p hp => ?_) (fun p hp => ?_) (fun p hp => ?_) (fun p hp => ?_) (fun p hp => ?_)
              · simp [up2, aPa, x1]
              · simp [up2, aPa, x2, nI_1]
              · simp [up2, aPa, x3]
              · rw [← ec]; simp [up2, x2, x4]
              · simp [up2, aPa, x5]
              · simp [up2, aPa, x6]
              · simp [up2, aPa, x7]
              · simp [up2, aPa, x8]
              · simp [up2, aPa, y1]
              · simp [up2, aPa, y2]
              · have hp : p < K 0 0 := by simpa [aPa, up2] using hp
                simp [up2, aPa, d1 p hp]
              · have hp : p < K 0 0 := by simpa [aPa, up2] using hp
                simp [up2, aPa, d2 p hp]
              · simp [up2, aPa, d3 p hp]
              · have hp : p < K 0 1 + 1 := by simpa [aPa, up2] using hp
                by_cases hpe : p = K 0 1
                · simp [up2, aPa, hpe]
                · simp [up2, aPa, hpe, f1 p (by omega)]
              · have hp : p < K 0 1 + 1 := by simpa [aPa, up2] using hp
                by_cases hpe : p = K 0 1
                · simp [up2, aPa, hpe]
                · simp [up2, aPa, hpe, f2 p (by omega)]
              · have hp : p < K 0 1 + 1 := by simpa [aPa, up2] using hp
                by_cases hpe : p = K 0 1
                · simp [up2, aPa, hpe]
                · simp [up2, aPa, hpe, f3 p (by omega)]
              · simp [up2, aPa, g p hp]
              · have hp : p < K 0 2 := by simpa [aPa, up2] using hp
                simp [up2, aPa, k1 p hp]
              · have hp : p < K 0 2 := by simpa [aPa, up2] using hp
                simp [up2, aPa, k2 p hp]
              · simp [up2, aPa, l p hp]
          · refine V_aload_n dX3_addPart_0 rfl rfl ?_
            refine V_getI dX3_addPart_1 fl_X3_53 (by first | assumption | exact ⟨by decide, rfl⟩) ?_
            refine V_bipush (v := 8) dX3_addPart_4 (by decide) ?_
            refine V_icmp_ge_f (tgt := 39) dX3_addPart_6 (by decide) (by rw [hx1, e8, lit_le (by omega) (by omega)]; omega) ?_
            refine V_iload_n dX3_addPart_9 rfl rfl (V_bipush (v := 99) dX3_addPart_10 (by decide) ?_)
            refine V_icmp_gt_f (tgt := 39) dX3_addPart_12 (by decide) (by rw [e99, lit_lt (by omega) (by omega)]; omega) ?_
            refine V_iload_n dX3_addPart_15 rfl rfl (V_bipush (v := 15) dX3_addPart_16 (by decide) ?_)
            refine V_icmp_gt_f (tgt := 39) dX3_addPart_18 (by decide) (by rw [e15, lit_lt (by omega) (by omega)]; omega) ?_
            refine V_iload_n dX3_addPart_21 rfl rfl (V_iconst (v := 1) dX3_addPart_22 (by decide) ?_)
            refine V_icmp_lt_f (tgt := 39) dX3_addPart_23 (by decide) (by rw [e1, lit_lt (by omega) (by omega)]; omega) ?_
            refine V_iload_n dX3_addPart_26 rfl rfl (V_sipush (v := 999) dX3_addPart_27 (by decide) ?_)
            refine V_icmp_gt_f (tgt := 39) dX3_addPart_30 (by decide) (by rw [e999, lit_lt (by omega) (by omega)]; omega) ?_
            refine V_iload dX3_addPart_33 rfl (V_iconst (v := 1) dX3_addPart_35 (by decide) ?_)
            refine V_icmp_le_f (tgt := 41) dX3_addPart_36 (by decide) (by rw [e1, lit_le (by omega) (by omega)]; omega) ?_
            refine V_iconst (v := 0) dX3_addPart_39 (by decide) ?_
            refine V_ireturn dX3_addPart_40 rfl rfl rfl (by decide) (by decide) ?_
            exact Kn (by omega)
        · refine V_aload_n dX3_addPart_0 rfl rfl ?_
          refine V_getI dX3_addPart_1 fl_X3_53 (by first | assumption | exact ⟨by decide, rfl⟩) ?_
          refine V_bipush (v := 8) dX3_addPart_4 (by decide) ?_
          refine V_icmp_ge_f (tgt := 39) dX3_addPart_6 (by decide) (by rw [hx1, e8, lit_le (by omega) (by omega)]; omega) ?_
          refine V_iload_n dX3_addPart_9 rfl rfl (V_bipush (v := 99) dX3_addPart_10 (by decide) ?_)
          refine V_icmp_gt_f (tgt := 39) dX3_addPart_12 (by decide) (by rw [e99, lit_lt (by omega) (by omega)]; omega) ?_
          refine V_iload_n dX3_addPart_15 rfl rfl (V_bipush (v := 15) dX3_addPart_16 (by decide) ?_)
          refine V_icmp_gt_f (tgt := 39) dX3_addPart_18 (by decide) (by rw [e15, lit_lt (by omega) (by omega)]; omega) ?_
          refine V_iload_n dX3_addPart_21 rfl rfl (V_iconst (v := 1) dX3_addPart_22 (by decide) ?_)
          refine V_icmp_lt_t (tgt := 39) dX3_addPart_23 (by decide) (by rw [e1, lit_lt (by omega) (by omega)]; omega) ?_
          refine V_iconst (v := 0) dX3_addPart_39 (by decide) ?_
          refine V_ireturn dX3_addPart_40 rfl rfl rfl (by decide) (by decide) ?_
          exact Kn (by omega)
      · refine V_aload_n dX3_addPart_0 rfl rfl ?_
        refine V_getI dX3_addPart_1 fl_X3_53 (by first | assumption | exact ⟨by decide, rfl⟩) ?_
        refine V_bipush (v := 8) dX3_addPart_4 (by decide) ?_
        refine V_icmp_ge_f (tgt := 39) dX3_addPart_6 (by decide) (by rw [hx1, e8, lit_le (by omega) (by omega)]; omega) ?_
        refine V_iload_n dX3_addPart_9 rfl rfl (V_bipush (v := 99) dX3_addPart_10 (by decide) ?_)
        refine V_icmp_gt_f (tgt := 39) dX3_addPart_12 (by decide) (by rw [e99, lit_lt (by omega) (by omega)]; omega) ?_
        refine V_iload_n dX3_addPart_15 rfl rfl (V_bipush (v := 15) dX3_addPart_16 (by decide) ?_)
        refine V_icmp_gt_t (tgt := 39) dX3_addPart_18 (by decide) (by rw [e15, lit_lt (by omega) (by omega)]; omega) ?_
        refine V_iconst (v := 0) dX3_addPart_39 (by decide) ?_
        refine V_ireturn dX3_addPart_40 rfl rfl rfl (by decide) (by decide) ?_
        exact Kn (by omega)
    · refine V_aload_n dX3_addPart_0 rfl rfl ?_
      refine V_getI dX3_addPart_1 fl_X3_53 (by first | assumption | exact ⟨by decide, rfl⟩) ?_
      refine V_bipush (v := 8) dX3_addPart_4 (by decide) ?_
      refine V_icmp_ge_f (tgt := 39) dX3_addPart_6 (by decide) (by rw [hx1, e8, lit_le (by omega) (by omega)]; omega) ?_
      refine V_iload_n dX3_addPart_9 rfl rfl (V_bipush (v := 99) dX3_addPart_10 (by decide) ?_)
      refine V_icmp_gt_t (tgt := 39) dX3_addPart_12 (by decide) (by rw [e99, lit_lt (by omega) (by omega)]; omega) ?_
      refine V_iconst (v := 0) dX3_addPart_39 (by decide) ?_
      refine V_ireturn dX3_addPart_40 rfl rfl rfl (by decide) (by decide) ?_
      exact Kn (by omega)
  · refine V_aload_n dX3_addPart_0 rfl rfl ?_
    refine V_getI dX3_addPart_1 fl_X3_53 (by first | assumption | exact ⟨by decide, rfl⟩) ?_
    refine V_bipush (v := 8) dX3_addPart_4 (by decide) ?_
    refine V_icmp_ge_t (tgt := 39) dX3_addPart_6 (by decide) (by rw [hx1, e8, lit_le (by omega) (by omega)]; omega) ?_
    refine V_iconst (v := 0) dX3_addPart_39 (by decide) ?_
    refine V_ireturn dX3_addPart_40 rfl rfl rfl (by decide) (by decide) ?_
    exact Kn (by omega)
end
