/-! Leaves: has, fill, bitCount -/
section
variable {E : En} {n : Nat} {I : TI} {J : TJ} {R : TR} {Post : PT}
theorem sp_has {a b : Nat} (ha : a < 2 ^ 31) (hb : b < 32) (K : Post (some (.int (b2i (a.testBit b)))) n I J R) : Cal E 1 M_X10_has [.int (nI a), .int (nI b)] n I J R Post := by
  refine Cal_of kn_X10_has rfl (Nat.le_of_ble_eq_true rfl) ?_
  refine V_iload_n dX10_has_0 rfl rfl (V_iload_n dX10_has_1 rfl rfl (V_ishr dX10_has_2 (V_iconst (v := 1) dX10_has_3 (by decide) (V_iand dX10_has_4 ?_))))
  refine V_if_eq (tgt := 12) dX10_has_5 (by decide) (fun h5 => ?_) (fun h5 => ?_)
  · rw [bit_nI ha hb] at h5
    refine V_iconst (v := 0) dX10_has_12 (by decide) ?_
    refine V_ireturn dX10_has_13 rfl rfl rfl (by decide) (by decide) ?_
    cases h : a.testBit b
    · rw [h] at K; exact K
    · rw [h] at h5; exact absurd h5 (by decide)
  · rw [bit_nI ha hb] at h5
    refine V_iconst (v := 1) dX10_has_8 (by decide) (V_goto (tgt := 13) dX10_has_9 (by decide) ?_)
    refine V_ireturn dX10_has_13 rfl rfl rfl (by decide) (by decide) ?_
    cases h : a.testBit b
    · rw [h] at h5; exact absurd rfl h5
    · rw [h] at K; exact K
theorem sp_mhas {a b : Nat} (ha : a < 2 ^ 31) (hb : b < 32) (K : Post (some (.int (b2i (a.testBit b)))) n I J R) : Cal E 1 M_X11_has [.int (nI a), .int (nI b)] n I J R Post := by
  refine Cal_of kn_X11_has rfl (Nat.le_of_ble_eq_true rfl) ?_
  refine V_iload_n dX11_has_0 rfl rfl (V_iload_n dX11_has_1 rfl rfl (V_ishr dX11_has_2 (V_iconst (v := 1) dX11_has_3 (by decide) (V_iand dX11_has_4 (V_iconst (v := 1) dX11_has_5 (by decide) ?_)))))
  refine V_icmp_ne (tgt := 13) dX11_has_6 (by decide) (fun h6 => ?_) (fun h6 => ?_)
  · rw [bit_nI ha hb] at h6
    refine V_iconst (v := 0) dX11_has_13 (by decide) ?_
    refine V_ireturn dX11_has_14 rfl rfl rfl (by decide) (by decide) ?_
    cases h : a.testBit b
    · rw [h] at K; exact K
    · rw [h] at h6; exact absurd rfl h6
  · rw [bit_nI ha hb] at h6
    refine V_iconst (v := 1) dX11_has_9 (by decide) (V_goto (tgt := 14) dX11_has_10 (by decide) ?_)
    refine V_ireturn dX11_has_14 rfl rfl rfl (by decide) (by decide) ?_
    cases h : a.testBit b
    · rw [h] at h6; exact absurd h6 (by decide)
    · rw [h] at K; exact K
/-- Arrays.fill(row, v) -/
theorem sp_fill {k len : Nat} {v : Int32} (hk : at_ n k (.inl (0, len))) (K : ∀ I', (∀ a b, I' a b = if a = k ∧ b < len then v else I a b) → Post none n I' J R) : Cal E 1 M_J7_fill_53178 [.ref k, .int v] n I J R Post := by
  have hl := shp_len hk.2
  refine Cal_of kn_J7_fill_53178 rfl (Nat.le_of_ble_eq_true rfl) ?_
  refine V_iconst (v := 0) dJ7_fill_53178_0 (by decide) (V_istore_2 dJ7_fill_53178_1 (by decide) rfl (V_aload_n dJ7_fill_53178_2 rfl rfl ?_))
  refine V_alen dJ7_fill_53178_3 (by first | assumption | exact ⟨by decide, rfl⟩) rfl ?_
  refine V_istore_3 dJ7_fill_53178_4 (by decide) rfl ?_
  have key : ∀ q, q ≤ len → ∀ I', (∀ a b, I' a b = if a = k ∧ b < q then v else I a b) → V E 1 M_J7_fill_53178 Post 5 [some (.ref k), some (.int v), some (.int (nI q)), some (.int (nI len))] [] n 0 0 I' J R := by
    refine loop_up len ?_ ?_
    · intro I' hI
      refine V_iload_n dJ7_fill_53178_5 rfl rfl (V_iload_n dJ7_fill_53178_6 rfl rfl ?_)
      refine V_icmp_ge_t (tgt := 20) dJ7_fill_53178_7 (by decide) (nI_le (Nat.le_refl _) (by omega)) ?_
      refine V_return dJ7_fill_53178_20 rfl rfl (by decide) (by decide) ?_
      exact K I' hI
    · intro q hq ih I' hI
      refine V_iload_n dJ7_fill_53178_5 rfl rfl (V_iload_n dJ7_fill_53178_6 rfl rfl ?_)
      refine V_icmp_ge_f (tgt := 20) dJ7_fill_53178_7 (by decide) (nI_ge hq (by omega)) ?_
      refine V_aload_n dJ7_fill_53178_10 rfl rfl (V_iload_n dJ7_fill_53178_11 rfl rfl (V_iload_n dJ7_fill_53178_12 rfl rfl ?_))
      refine V_ias dJ7_fill_53178_13 (by first | assumption | exact ⟨by decide, rfl⟩) ⟨rfl, hq⟩ ?_
      refine V_iinc_2 (w := 1) dJ7_fill_53178_14 (by decide) (by decide) rfl (V_goto (tgt := 5) dJ7_fill_53178_17 (by decide) ?_)
      rw [nI_1]
      refine ih _ (fun a b => ?_)
      unfold up2
      by_cases h1 : a = k
      · by_cases h2 : b = q
        · simp [h1, h2]
        · rw [if_pos h1, if_neg h2, hI]
          by_cases h3 : b < q
          · simp [h1, h3, Nat.lt_succ_of_lt h3]
          · have : ¬ b < q + 1 := by omega
            simp [h3, this]
      · rw [if_neg h1, hI]
        simp [h1]
  exact key 0 (Nat.zero_le _) I (fun a b => by simp)
theorem sp_range {a b c : Nat} (h1 : b ≤ c) (h2 : c ≤ a) (h3 : a < 2 ^ 31) (K : Post none n I J R) : Cal E 1 M_J7_rangeCheck_23922 [.int (nI a), .int (nI b), .int (nI c)] n I J R Post := by
  refine Cal_of kn_J7_rangeCheck_23922 rfl (Nat.le_of_ble_eq_true rfl) ?_
  refine V_iload_n dJ7_rangeCheck_23922_0 rfl rfl (V_iload_n dJ7_rangeCheck_23922_1 rfl rfl ?_)
  refine V_icmp_le_t (tgt := 46) dJ7_rangeCheck_23922_2 (by decide) (nI_le h1 (by omega)) ?_
  refine V_iload_n dJ7_rangeCheck_23922_46 rfl rfl ?_
  refine V_if_ge_t (tgt := 59) dJ7_rangeCheck_23922_47 (by decide) (nI_pos' (by omega)) ?_
  refine V_iload_n dJ7_rangeCheck_23922_59 rfl rfl (V_iload_n dJ7_rangeCheck_23922_60 rfl rfl ?_)
  refine V_icmp_le_t (tgt := 73) dJ7_rangeCheck_23922_61 (by decide) (nI_le h2 h3) ?_
  refine V_return dJ7_rangeCheck_23922_73 rfl rfl (by decide) (by decide) ?_
  exact K
/-- Arrays.fill(row, from, to, v) -/
theorem sp_fill4 {k len f t : Nat} {v : Int32} (hk : at_ n k (.inl (0, len))) (hf : f ≤ t) (ht : t ≤ len) (K : ∀ I', (∀ a b, I' a b = if a = k ∧ f ≤ b ∧ b < t then v else I a b) → Post none n I' J R) : Cal E 2 M_J7_fill_fda19 [.ref k, .int (nI f), .int (nI t), .int v] n I J R Post := by
  have hl := shp_len hk.2
  refine Cal_of kn_J7_fill_fda19 rfl (Nat.le_of_ble_eq_true rfl) ?_
  refine V_aload_n dJ7_fill_fda19_0 rfl rfl ?_
  refine V_alen dJ7_fill_fda19_1 (by first | assumption | exact ⟨by decide, rfl⟩) rfl ?_
  refine V_iload_n dJ7_fill_fda19_2 rfl rfl (V_iload_n dJ7_fill_fda19_3 rfl rfl ?_)
  refine V_cS3v (M' := M_J7_rangeCheck_23922) (d' := 1) dJ7_fill_fda19_4 (Or.inl ml_J7_13) kb_J7_rangeCheck_23922 (by first | decide | omega) (by simp [Value.category]) ⟨by decide, by decide⟩ ?_
  refine sp_range hf ht (by omega) ⟨rfl, ?_⟩
  refine V_iload_n dJ7_fill_fda19_7 rfl rfl (V_istore_4 dJ7_fill_fda19_8 (by decide) rfl ?_)
  have key : ∀ q, q ≤ t → f ≤ q → ∀ I', (∀ a b, I' a b = if a = k ∧ f ≤ b ∧ b < q then v else I a b) → V E 2 M_J7_fill_fda19 Post 10 [some (.ref k), some (.int (nI f)), some (.int (nI t)), some (.int v), some (.int (nI q))] [] n 0 0 I' J R := by
    refine loop_up t ?_ ?_
    · intro _ I' hI
      refine V_iload dJ7_fill_fda19_10 rfl (V_iload_n dJ7_fill_fda19_12 rfl rfl ?_)
      refine V_icmp_ge_t (tgt := 27) dJ7_fill_fda19_13 (by decide) (nI_le (Nat.le_refl _) (by omega)) ?_
      refine V_return dJ7_fill_fda19_27 rfl rfl (by decide) (by decide) ?_
      exact K I' hI
    · intro q hq ih hfq I' hI
      refine V_iload dJ7_fill_fda19_10 rfl (V_iload_n dJ7_fill_fda19_12 rfl rfl ?_)
      refine V_icmp_ge_f (tgt := 27) dJ7_fill_fda19_13 (by decide) (nI_ge hq (by omega)) ?_
      refine V_aload_n dJ7_fill_fda19_16 rfl rfl (V_iload dJ7_fill_fda19_17 rfl (V_iload_n dJ7_fill_fda19_19 rfl rfl ?_))
      refine V_ias dJ7_fill_fda19_20 (by first | assumption | exact ⟨by decide, rfl⟩) ⟨rfl, by omega⟩ ?_
      refine V_iinc_4 (w := 1) dJ7_fill_fda19_21 (by decide) (by decide) rfl (V_goto (tgt := 10) dJ7_fill_fda19_24 (by decide) ?_)
      rw [nI_1]
      refine ih (by omega) _ (fun a b => ?_)
      unfold up2
      by_cases h1 : a = k
      · by_cases h2 : b = q
        · simp [h1, h2, hfq]
        · rw [if_pos h1, if_neg h2, hI]
          by_cases h3 : f ≤ b ∧ b < q
          · simp [h1, h3, Nat.lt_succ_of_lt h3.2]
          · have : ¬ (f ≤ b ∧ b < q + 1) := by omega
            simp [h3, this]
      · rw [if_neg h1, hI]
        simp [h1]
  exact key f hf (Nat.le_refl _) I (fun a b => by
    have : ¬ (a = k ∧ f ≤ b ∧ b < f) := by omega
    simp [this])
end
