/-! Company.settle -/
theorem up2_up2 {α : Type} (f : Nat → Nat → α) (k s : Nat) (v w : α) : up2 (up2 f k s v) k s w = up2 f k s w := by
  funext a b
  unfold up2
  by_cases h1 : a = k
  · by_cases h2 : b = s
    · simp [h1, h2]
    · simp [h1, h2]
  · simp [h1]
theorem CoX.up {I : TI} {c : Nat} {K : KT} (h : CoX I c K) {k s : Nat} {v : Int32} (hk : k < c ∨ c + 11 < k) : CoX (up2 I k s v) c K := h.of (fun a b h1 h2 => up2_k I v b (by omega))
section
variable {E : En} {I : TI} {J : TJ} {co dr : Nat} {cc a1 a2 : Option Nat} {Post : PT} {c : Nat} {K : KT}
theorem sp_settle (hc : c = 4 ∨ c = 18) (hB : KB K) (hX : CoX I c K) (Kk : ∀ I', (∀ a b, a ≠ c + 12 → a ≠ c + 13 → I' a b = I a b) → SX I' c K → Post none NC I' J (RR co dr cc a1 a2)) : Cal E 3 M_X3_settle [.ref c] NC I J (RR co dr cc a1 a2) Post := by
  have hP := hB.1.1
  have hQ := hB.1.2.1
  obtain ⟨_, _, _, _, _, _, _, _, _, _, _, _, _, _, _, _, _, _, _, _, _, _, _⟩ := f_co (co := co) (dr := dr) (cc := cc) (a1 := a1) (a2 := a2) (hc)
  refine Cal_of kn_X3_settle rfl (Nat.le_of_ble_eq_true rfl) ?_
  refine V_iconst (v := 0) dX3_settle_0 (by decide) (V_istore_1 dX3_settle_1 (by decide) rfl ?_)
  have key : ∀ i, i ≤ K 0 1 → ∀ I', (∀ a b, a ≠ c + 12 → a ≠ c + 13 → I' a b = I a b) → (∀ q, q < i → I' (c + 12) q = nI (ableM K q) ∧ I' (c + 13) q = nI (clashM K q)) → V E 3 M_X3_settle Post 2 [some (.ref c), some (.int (nI i)), none] [] NC 0 0 I' J (RR co dr cc a1 a2) := by
    refine loop_up _ ?_ ?_
    · intro I' hI hs
      have hX' : CoX I' c K := hX.of (fun a b h1 h2 => hI a b (by omega) (by omega))
      refine V_iload_n dX3_settle_2 rfl rfl (V_aload_n dX3_settle_3 rfl rfl ?_)
      refine V_getI dX3_settle_4 fl_X3_53 (by first | assumption | exact ⟨by decide, rfl⟩) ?_
      refine V_icmp_ge_t (tgt := 135) dX3_settle_7 (by decide) (by rw [hX'.1.2.1]; exact nI_le (Nat.le_refl _) (by omega)) ?_
      refine V_return dX3_settle_135 rfl rfl (by decide) (by decide) ?_
      exact Kk I' hI hs
    · intro i hi ih I' hI hs
      have hX' : CoX I' c K := hX.of (fun a b h1 h2 => hI a b (by omega) (by omega))
      have hw : K 7 i ≤ 10 := Nat.le_trans (hB.2.2.2.2.1 i) hP
      refine V_iload_n dX3_settle_2 rfl rfl (V_aload_n dX3_settle_3 rfl rfl ?_)
      refine V_getI dX3_settle_4 fl_X3_53 (by first | assumption | exact ⟨by decide, rfl⟩) ?_
      refine V_icmp_ge_f (tgt := 135) dX3_settle_7 (by decide) (by rw [hX'.1.2.1]; exact nI_ge hi (by omega)) ?_
      refine V_aload_n dX3_settle_10 rfl rfl ?_
      refine V_getR dX3_settle_11 fl_X3_43 (by first | assumption | exact ⟨by decide, rfl⟩) (by first | assumption | rfl) ?_
      refine V_iload_n dX3_settle_14 rfl rfl (V_iconst (v := 0) dX3_settle_15 (by decide) ?_)
      refine V_ias dX3_settle_16 (by first | assumption | exact ⟨by decide, rfl⟩) ⟨rfl, by omega⟩ ?_
      refine V_iconst (v := 0) dX3_settle_17 (by decide) (V_istore_2 dX3_settle_18 (by decide) rfl ?_)
      -- the second inner loop
      have in2 : ∀ j, j ≤ K 0 1 → V E 3 M_X3_settle Post 86 [some (.ref c), some (.int (nI i)), some (.int (nI j))] [] NC 0 0 (up2 (up2 I' (c + 12) i (nI (ableM K i))) (c + 13) i (nI (mk (fun j => decide (j ≠ i) && cls K i j) j))) J (RR co dr cc a1 a2) := by
        refine loop_up _ ?_ ?_
        · have hX2 : CoX (up2 (up2 I' (c + 12) i (nI (ableM K i))) (c + 13) i (nI (mk (fun j => decide (j ≠ i) && cls K i j) (K 0 1)))) c K := (hX'.up (by omega)).up (by omega)
          refine V_iload_n dX3_settle_86 rfl rfl (V_aload_n dX3_settle_87 rfl rfl ?_)
          refine V_getI dX3_settle_88 fl_X3_53 (by first | assumption | exact ⟨by decide, rfl⟩) ?_
          refine V_icmp_ge_t (tgt := 129) dX3_settle_91 (by decide) (by rw [hX2.1.2.1]; exact nI_le (Nat.le_refl _) (by omega)) ?_
          refine V_iinc_1 (w := 1) dX3_settle_129 (by decide) (by decide) rfl (V_goto (tgt := 2) dX3_settle_132 (by decide) ?_)
          rw [nI_1]
          refine V_forget (ih _ (fun a b h1 h2 => ?_) (fun q hq => ?_)) (by simp [lessb])
          · rw [up2_k _ _ _ h2, up2_k _ _ _ h1]; exact hI a b h1 h2
          · by_cases hqi : q = i
            · subst hqi
              rw [up2_k _ _ _ (by omega), up2_self, up2_self]
              exact ⟨rfl, rfl⟩
            · rw [up2_k _ _ _ (by omega), up2_ne _ _ (by omega), up2_ne _ _ (by omega), up2_k _ _ _ (by omega)]
              exact hs q (by omega)
        · intro j hj ihj
          have hX2 : CoX (up2 (up2 I' (c + 12) i (nI (ableM K i))) (c + 13) i (nI (mk (fun j => decide (j ≠ i) && cls K i j) j))) c K := (hX'.up (by omega)).up (by omega)
          by_cases hji : j = i
          · refine V_iload_n dX3_settle_86 rfl rfl (V_aload_n dX3_settle_87 rfl rfl ?_)
            refine V_getI dX3_settle_88 fl_X3_53 (by first | assumption | exact ⟨by decide, rfl⟩) ?_
            refine V_icmp_ge_f (tgt := 129) dX3_settle_91 (by decide) (by rw [hX2.1.2.1]; exact nI_ge hj (by omega)) ?_
            refine V_iload_n dX3_settle_94 rfl rfl (V_iload_n dX3_settle_95 rfl rfl ?_)
            refine V_icmp_eq_t (tgt := 123) dX3_settle_96 (by decide) (by rw [hji]) ?_
            refine V_iinc_2 (w := 1) dX3_settle_123 (by decide) (by decide) rfl (V_goto (tgt := 86) dX3_settle_126 (by decide) ?_)
            rw [nI_1, mk_f (f := fun j => decide (j ≠ i) && cls K i j) (k := j) (by omega) (by simp [hji])]
            exact ihj
          · refine V_iload_n dX3_settle_86 rfl rfl (V_aload_n dX3_settle_87 rfl rfl ?_)
            refine V_getI dX3_settle_88 fl_X3_53 (by first | assumption | exact ⟨by decide, rfl⟩) ?_
            refine V_icmp_ge_f (tgt := 129) dX3_settle_91 (by decide) (by rw [hX2.1.2.1]; exact nI_ge hj (by omega)) ?_
            refine V_iload_n dX3_settle_94 rfl rfl (V_iload_n dX3_settle_95 rfl rfl ?_)
            refine V_icmp_eq_f (tgt := 123) dX3_settle_96 (by decide) (fun z => hji ((nI_eq (by omega) (by omega)).mp z)) ?_
            refine V_aload_n dX3_settle_99 rfl rfl ?_
            refine V_getR dX3_settle_100 fl_X3_36 (by first | assumption | exact ⟨by decide, rfl⟩) (by first | assumption | rfl) ?_
            refine V_iload_n dX3_settle_103 rfl rfl (V_iload_n dX3_settle_104 rfl rfl ?_)
            refine V_cV2i (M' := M_X5_clashes) (d' := 2) dX3_settle_105 (Or.inl ml_X3_142) kb_X5_clashes (by first | assumption | exact ⟨by decide, rfl⟩) (by first | decide | omega) (by simp [Value.category]) ⟨by decide, by decide⟩ ?_
            refine sp_clashes hc hB hX2 (by omega) (by omega) (Ne.symm hji) ⟨_, rfl, ?_⟩
            cases hv : cls K i j
            · refine V_if_eq_t (tgt := 123) dX3_settle_108 (by decide) (rfl) ?_
              refine V_iinc_2 (w := 1) dX3_settle_123 (by decide) (by decide) rfl (V_goto (tgt := 86) dX3_settle_126 (by decide) ?_)
              rw [nI_1, mk_f (f := fun j => decide (j ≠ i) && cls K i j) (k := j) (by omega) (by simp [hv])]
              exact ihj
            · refine V_if_eq_f (tgt := 123) dX3_settle_108 (by decide) (by decide) ?_
              refine V_aload_n dX3_settle_111 rfl rfl ?_
              refine V_getR dX3_settle_112 fl_X3_46 (by first | assumption | exact ⟨by decide, rfl⟩) (by first | assumption | rfl) ?_
              refine V_iload_n dX3_settle_115 rfl rfl (V_dup2 dX3_settle_116 rfl rfl ?_)
              refine V_ial dX3_settle_117 (by first | assumption | exact ⟨by decide, rfl⟩) ⟨rfl, by omega⟩ ?_
              refine V_iconst (v := 1) dX3_settle_118 (by decide) (V_iload_n dX3_settle_119 rfl rfl (V_ishl dX3_settle_120 (V_ior dX3_settle_121 ?_)))
              refine V_ias dX3_settle_122 (by first | assumption | exact ⟨by decide, rfl⟩) ⟨rfl, by omega⟩ ?_
              refine V_iinc_2 (w := 1) dX3_settle_123 (by decide) (by decide) rfl (V_goto (tgt := 86) dX3_settle_126 (by decide) ?_)
              rw [nI_1, up2_self, up2_up2, mk_t (f := fun j => decide (j ≠ i) && cls K i j) (k := j) (by omega) (by simp [hv, hji])]
              exact ihj
      -- the first inner loop
      have in1 : ∀ p, p ≤ K 0 0 → V E 3 M_X3_settle Post 19 [some (.ref c), some (.int (nI i)), some (.int (nI p))] [] NC 0 0 (up2 I' (c + 12) i (nI (mk (fun p => may K p i) p))) J (RR co dr cc a1 a2) := by
        refine loop_up _ ?_ ?_
        · have hX1 : CoX (up2 I' (c + 12) i (nI (mk (fun p => may K p i) (K 0 0)))) c K := hX'.up (by omega)
          refine V_iload_n dX3_settle_19 rfl rfl (V_aload_n dX3_settle_20 rfl rfl ?_)
          refine V_getI dX3_settle_21 fl_X3_49 (by first | assumption | exact ⟨by decide, rfl⟩) ?_
          refine V_icmp_ge_t (tgt := 77) dX3_settle_24 (by decide) (by rw [hX1.1.1]; exact nI_le (Nat.le_refl _) (by omega)) ?_
          refine V_aload_n dX3_settle_77 rfl rfl ?_
          refine V_getR dX3_settle_78 fl_X3_46 (by first | assumption | exact ⟨by decide, rfl⟩) (by first | assumption | rfl) ?_
          refine V_iload_n dX3_settle_81 rfl rfl (V_iconst (v := 0) dX3_settle_82 (by decide) ?_)
          refine V_ias dX3_settle_83 (by first | assumption | exact ⟨by decide, rfl⟩) ⟨rfl, by omega⟩ ?_
          refine V_iconst (v := 0) dX3_settle_84 (by decide) (V_istore_2 dX3_settle_85 (by decide) rfl ?_)
          exact in2 0 (Nat.zero_le _)
        · intro p hp ihp
          have hX1 : CoX (up2 I' (c + 12) i (nI (mk (fun p => may K p i) p))) c K := hX'.up (by omega)
          have ho := hX1.2.2.2.2.2.1 i (by omega)
          have hk := hX1.2.2.2.1 p (by omega)
          have h50 : (decide (K 7 i = p + 1) || (K 3 p).testBit i) = true → V E 3 M_X3_settle Post 50 [some (.ref c), some (.int (nI i)), some (.int (nI p))] [] NC 0 0 (up2 I' (c + 12) i (nI (mk (fun p => may K p i) p))) J (RR co dr cc a1 a2) := by
            intro hor
            refine V_aload_n dX3_settle_50 rfl rfl (V_iload_n dX3_settle_51 rfl rfl (V_iload_n dX3_settle_52 rfl rfl ?_))
            refine V_cV2i (M' := M_X3_isSkilled) (d' := 1) dX3_settle_53 (Or.inl ml_X3_139) kb_X3_isSkilled (by first | assumption | exact ⟨by decide, rfl⟩) (by first | decide | omega) (by simp [Value.category]) ⟨by decide, by decide⟩ ?_
            refine sp_isSkilled hc hB hX1 hp hi ⟨_, rfl, ?_⟩
            cases hv : skl K p i
            · refine V_if_eq_t (tgt := 71) dX3_settle_56 (by decide) (rfl) ?_
              refine V_iinc_2 (w := 1) dX3_settle_71 (by decide) (by decide) rfl (V_goto (tgt := 19) dX3_settle_74 (by decide) ?_)
              rw [nI_1, mk_f (f := fun p => may K p i) (k := p) (by omega) (by simp [may, hv])]
              exact ihp
            · refine V_if_eq_f (tgt := 71) dX3_settle_56 (by decide) (by decide) ?_
              refine V_aload_n dX3_settle_59 rfl rfl ?_
              refine V_getR dX3_settle_60 fl_X3_43 (by first | assumption | exact ⟨by decide, rfl⟩) (by first | assumption | rfl) ?_
              refine V_iload_n dX3_settle_63 rfl rfl (V_dup2 dX3_settle_64 rfl rfl ?_)
              refine V_ial dX3_settle_65 (by first | assumption | exact ⟨by decide, rfl⟩) ⟨rfl, by omega⟩ ?_
              refine V_iconst (v := 1) dX3_settle_66 (by decide) (V_iload_n dX3_settle_67 rfl rfl (V_ishl dX3_settle_68 (V_ior dX3_settle_69 ?_)))
              refine V_ias dX3_settle_70 (by first | assumption | exact ⟨by decide, rfl⟩) ⟨rfl, by omega⟩ ?_
              refine V_iinc_2 (w := 1) dX3_settle_71 (by decide) (by decide) rfl (V_goto (tgt := 19) dX3_settle_74 (by decide) ?_)
              rw [nI_1, up2_self, up2_up2, mk_t (f := fun p => may K p i) (k := p) (by omega) (by simp only [may, hv, hor]; rfl)]
              exact ihp
          by_cases how : K 7 i = p + 1
          · refine V_iload_n dX3_settle_19 rfl rfl (V_aload_n dX3_settle_20 rfl rfl ?_)
            refine V_getI dX3_settle_21 fl_X3_49 (by first | assumption | exact ⟨by decide, rfl⟩) ?_
            refine V_icmp_ge_f (tgt := 77) dX3_settle_24 (by decide) (by rw [hX1.1.1]; exact nI_ge hp (by omega)) ?_
            refine V_aload_n dX3_settle_27 rfl rfl ?_
            refine V_getR dX3_settle_28 fl_X3_30 (by first | assumption | exact ⟨by decide, rfl⟩) (by first | assumption | rfl) ?_
            refine V_iload_n dX3_settle_31 rfl rfl ?_
            refine V_ial dX3_settle_32 (by first | assumption | exact ⟨by decide, rfl⟩) ⟨rfl, by omega⟩ ?_
            refine V_iload_n dX3_settle_33 rfl rfl ?_
            refine V_icmp_eq_t (tgt := 50) dX3_settle_34 (by decide) (by rw [ho]; exact (owv_eq hw (by omega)).mpr how) ?_
            exact h50 (by simp [how])
          · refine V_iload_n dX3_settle_19 rfl rfl (V_aload_n dX3_settle_20 rfl rfl ?_)
            refine V_getI dX3_settle_21 fl_X3_49 (by first | assumption | exact ⟨by decide, rfl⟩) ?_
            refine V_icmp_ge_f (tgt := 77) dX3_settle_24 (by decide) (by rw [hX1.1.1]; exact nI_ge hp (by omega)) ?_
            refine V_aload_n dX3_settle_27 rfl rfl ?_
            refine V_getR dX3_settle_28 fl_X3_30 (by first | assumption | exact ⟨by decide, rfl⟩) (by first | assumption | rfl) ?_
            refine V_iload_n dX3_settle_31 rfl rfl ?_
            refine V_ial dX3_settle_32 (by first | assumption | exact ⟨by decide, rfl⟩) ⟨rfl, by omega⟩ ?_
            refine V_iload_n dX3_settle_33 rfl rfl ?_
            refine V_icmp_eq_f (tgt := 50) dX3_settle_34 (by decide) (by rw [ho]; exact fun z => how ((owv_eq hw (by omega)).mp z)) ?_
            refine V_aload_n dX3_settle_37 rfl rfl ?_
            refine V_getR dX3_settle_38 fl_X3_18 (by first | assumption | exact ⟨by decide, rfl⟩) (by first | assumption | rfl) ?_
            refine V_iload_n dX3_settle_41 rfl rfl ?_
            refine V_ial dX3_settle_42 (by first | assumption | exact ⟨by decide, rfl⟩) ⟨rfl, by omega⟩ ?_
            refine V_iload_n dX3_settle_43 rfl rfl ?_
            refine V_cS2i (M' := M_X10_has) (d' := 1) dX3_settle_44 (Or.inr ⟨_, ml_X3_136⟩) kb_X10_has (by first | decide | omega) (by simp [Value.category]) ⟨by decide, by decide⟩ ?_
            rw [hk]
            refine sp_has (lt31 (hB.2.2.1 p) (by omega)) (by omega) ⟨_, rfl, ?_⟩
            cases hv : (K 3 p).testBit i
            · refine V_if_eq_t (tgt := 71) dX3_settle_47 (by decide) (rfl) ?_
              refine V_iinc_2 (w := 1) dX3_settle_71 (by decide) (by decide) rfl (V_goto (tgt := 19) dX3_settle_74 (by decide) ?_)
              rw [nI_1, mk_f (f := fun p => may K p i) (k := p) (by omega) (by simp [may, hv, how])]
              exact ihp
            · refine V_if_eq_f (tgt := 71) dX3_settle_47 (by decide) (by decide) ?_
              exact h50 (by simp [hv])
      exact in1 0 (Nat.zero_le _)
  exact key 0 (Nat.zero_le _) I (fun a b _ _ => rfl) (fun q hq => absurd hq (by omega))
end
