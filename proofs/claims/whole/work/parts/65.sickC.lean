/-! The sickness: a day passes, the days, what is asked -/
theorem rep_sum {f bs : Nat → Nat} {n : Nat} (r2 : ∀ b b', b < n → b' < n → bs b = bs b' → b = b') (r3 : ∀ c, 0 < f c → ∃ b, b < n ∧ bs b = c) (t : Nat) : fb_sm (fun b => if bs b = t then f t else 0) n = f t := by
  by_cases h : f t = 0
  · rw [h]
    have : (fun b => if bs b = t then 0 else 0) = fun _ : Nat => 0 := by funext b; split <;> rfl
    rw [this, fb_sm_const]; rfl
  · obtain ⟨b0, hb0, e0⟩ := r3 t (by omega)
    refine Eq.trans (fb_sm_cong (fun b hb => ?_)) (one_sum (a := f t) hb0)
    by_cases hb2 : b = b0
    · subst hb2; rw [if_pos e0, if_pos rfl]
    · rw [if_neg hb2, if_neg (fun z => hb2 (r2 b b0 hb hb0 (by rw [z, e0])))]
theorem nI_nn {n : Nat} (h : n < 2 ^ 31) : ¬ nI n < 0 := by rw [show (0 : Int32) = nI 0 from rfl, lit_lt h (by decide)]; omega
theorem wlr_t (K : KT) {s p q : Nat} (h : s.testBit q = true) : wlr K s p (q + 1) = wlr K s p q * (100 - K 11 (10 * q + p)) / 100 := by
  show (if s.testBit q then _ else _) = _
  rw [if_pos h]
theorem wlr_f (K : KT) {s p q : Nat} (h : s.testBit q = false) : wlr K s p (q + 1) = wlr K s p q := by
  show (if s.testBit q then _ else _) = _
  rw [if_neg (by rw [h]; decide)]
theorem pt_t (K : KT) {s a q : Nat} (h : s.testBit q = true) : pt K s a (q + 1) = pt K s a q := by
  show (if s.testBit q then _ else _) = _
  rw [if_pos h]
theorem pt_f (K : KT) {s a q : Nat} (h : s.testBit q = false) : pt K s a (q + 1) = dvd1 (wl K s q) q (pt K s a q) := by
  show (if s.testBit q then _ else _) = _
  rw [if_neg (by rw [h]; decide)]
def lik (T : Nat → Nat) : Nat → Nat
  | 0 => 0
  | s + 1 => if T (lik T s) < T s then s else lik T s
theorem lik_lt (T : Nat → Nat) : ∀ s, lik T s < s + 1
  | 0 => Nat.zero_lt_one
  | s + 1 => by have := lik_lt T s; unfold lik; split <;> omega
theorem lik_lt' (T : Nat → Nat) {s : Nat} (h : 0 < s) : lik T s < s := by
  cases s with
  | zero => omega
  | succ s => have := lik_lt T s; unfold lik; split <;> omega
def illS (K : KT) (T : Nat → Nat) (p : Nat) : Nat → Nat := fun s => if s.testBit p then T s else 0
noncomputable def metS (K : KT) (T : Nat → Nat) : Nat → Nat := fun s => if metB K s 0 then T s else 0
def SIC (I : TI) (K : KT) : Prop := I 59 5 = -4 ∨ ∃ h dd, h < 2 ^ K 0 0 ∧ dd ≤ 14 ∧ I 59 5 = nI h ∧ I 59 6 = nI dd ∧ ∀ s, s < 2 ^ K 0 0 → I 60 s = nI (cold K h dd s)
section
variable {E : En} {I : TI} {J : TJ} {co dr : Nat} {cc a1 a2 : Option Nat} {Post : PT} {e : Nat} {K : KT}
theorem sp_staysWell {d s p : Nat} (hd : 2 ≤ d) (he : e = 4 ∨ e = 18) (hB : KB K) (hX : CoX I e K) (hs : s < 2 ^ 31) (hp : p < 10) (Kk : Post (some (.int (nI (wl K s p)))) NC I J (RR co dr cc a1 a2)) : Cal E d M_X7_staysWell [.ref 59, .ref e, .int (nI s), .int (nI p)] NC I J (RR co dr cc a1 a2) Post := by
  have hP := hB.1.1
  obtain ⟨_, _, _, _, _, _, _, _, _, _, _, _, _, _, _, _, _, _, _, _, _, _, _⟩ := f_co (co := co) (dr := dr) (cc := cc) (a1 := a1) (a2 := a2) (he)
  refine Cal_of kn_X7_staysWell rfl (Nat.le_of_ble_eq_true rfl) ?_
  refine V_ldc dX7_staysWell_0 ct_X7_37 (V_istore_4 dX7_staysWell_2 (by decide) rfl (V_iconst (v := 0) dX7_staysWell_4 (by decide) (V_istore_5 dX7_staysWell_5 (by decide) rfl ?_)))
  rw [show (1000000 : Int32) = nI (wlr K s p 0) from rfl]
  have key : ∀ q, q ≤ K 0 0 → V E d M_X7_staysWell Post 7 [some (.ref 59), some (.ref e), some (.int (nI s)), some (.int (nI p)), some (.int (nI (wlr K s p q))), some (.int (nI q))] [] NC 0 0 I J (RR co dr cc a1 a2) := by
    refine loop_up _ ?_ ?_
    · refine V_iload dX7_staysWell_7 rfl (V_aload_n dX7_staysWell_9 rfl rfl ?_)
      refine V_getI dX7_staysWell_10 fl_X7_42 (by first | assumption | exact ⟨by decide, rfl⟩) ?_
      refine V_icmp_ge_t (tgt := 54) dX7_staysWell_13 (by decide) (by rw [hX.1.1]; exact nI_le (Nat.le_refl _) (by omega)) ?_
      refine V_iload dX7_staysWell_54 rfl ?_
      refine V_ireturn dX7_staysWell_56 rfl rfl rfl (by decide) (by decide) ?_
      exact Kk
    · intro q hq ih
      have hw := wlr_le K s p q
      refine V_iload dX7_staysWell_7 rfl (V_aload_n dX7_staysWell_9 rfl rfl ?_)
      refine V_getI dX7_staysWell_10 fl_X7_42 (by first | assumption | exact ⟨by decide, rfl⟩) ?_
      refine V_icmp_ge_f (tgt := 54) dX7_staysWell_13 (by decide) (by rw [hX.1.1]; exact nI_ge hq (by omega)) ?_
      refine V_iload_n dX7_staysWell_16 rfl rfl (V_iload dX7_staysWell_17 rfl ?_)
      refine V_cS2i (M' := M_X10_has) (d' := 1) dX7_staysWell_19 (Or.inr ⟨_, ml_X7_63⟩) kb_X10_has (by first | decide | omega) (by simp [Value.category]) ⟨by decide, by decide⟩ ?_
      refine sp_has hs (by omega) ⟨_, rfl, ?_⟩
      cases hv : s.testBit q
      · refine V_if_eq_t (tgt := 48) dX7_staysWell_22 (by decide) (rfl) ?_
        refine V_iinc_5 (w := 1) dX7_staysWell_48 (by decide) (by decide) rfl (V_goto (tgt := 7) dX7_staysWell_51 (by decide) ?_)
        rw [nI_1, ← wlr_f K hv]
        exact ih
      · have hk := hB.2.2.2.2.2.2 (10 * q + p)
        have hl := hX.2.2.2.2.2.2.2 (10 * q + p) (by omega)
        have hml : wlr K s p q * (100 - K 11 (10 * q + p)) ≤ 1000000 * 100 := Nat.mul_le_mul hw (by omega)
        refine V_if_eq_f (tgt := 48) dX7_staysWell_22 (by decide) (by decide) ?_
        refine V_iload dX7_staysWell_25 rfl (V_bipush (v := 100) dX7_staysWell_27 (by decide) (V_aload_n dX7_staysWell_29 rfl rfl ?_))
        refine V_getR dX7_staysWell_30 fl_X7_75 (by first | assumption | exact ⟨by decide, rfl⟩) (by first | assumption | rfl) ?_
        refine V_iload dX7_staysWell_33 rfl (V_bipush (v := 10) dX7_staysWell_35 (by decide) (V_imul dX7_staysWell_37 (V_iload_n dX7_staysWell_38 rfl rfl (V_iadd dX7_staysWell_39 ?_))))
        refine V_ial dX7_staysWell_40 (by first | assumption | exact ⟨by decide, rfl⟩) (show ix _ (10 * q + p) 100 from ⟨(by rw [show (10 : Int32) = nI 10 from rfl, pk_mul, nI_add, Nat.mul_comm]), by omega⟩) ?_
        refine V_isub dX7_staysWell_41 (V_imul dX7_staysWell_42 (V_bipush (v := 100) dX7_staysWell_43 (by decide) (V_idiv dX7_staysWell_45 (by decide) (V_istore_4 dX7_staysWell_46 (by decide) rfl (V_iinc_5 (w := 1) dX7_staysWell_48 (by decide) (by decide) rfl ?_)))))
        refine V_goto (tgt := 7) dX7_staysWell_51 (by decide) ?_
        rw [nI_1, hl, show (100 : Int32) = nI 100 from rfl, pk_sub hk, pk_mul, pk_div (by omega) (by omega) (by omega), ← wlr_t K hv]
        exact ih
  exact key 0 (Nat.zero_le _)
theorem sp_spread {d s a : Nat} {N : Nat → Nat} (hd : 3 ≤ d) (he : e = 4 ∨ e = 18) (hB : KB K) (hX : CoX I e K) (hs : s < 2 ^ K 0 0) (ha : I 60 s = nI a) (ha1 : 0 < a) (ha2 : a ≤ 1000000) (hN : ∀ t, t < 2 ^ K 0 0 → I 61 t = nI (N t)) (Kk : ∀ I', (∀ x y, (x ≠ 59 ∨ y ≠ 4) → x ≠ 61 → x ≠ 62 → x ≠ 63 → I' x y = I x y) → (∀ t, t < 2 ^ K 0 0 → I' 61 t = nI (N t + pt K s a (K 0 0) t)) → Post none NC I' J (RR co dr cc a1 a2)) : Cal E d M_X7_spread [.ref 59, .ref e, .int (nI s)] NC I J (RR co dr cc a1 a2) Post := by
  have hP := hB.1.1
  have hpw : 2 ^ K 0 0 ≤ 1024 := Nat.pow_le_pow_right (n := 2) (by decide) hP
  obtain ⟨_, _, _, _, _, _, _, _, _, _, _, _, _, _, _, _, _, _, _, _, _, _, _⟩ := f_co (co := co) (dr := dr) (cc := cc) (a1 := a1) (a2 := a2) (he)
  refine Cal_of kn_X7_spread rfl (Nat.le_of_ble_eq_true rfl) ?_
  refine V_aload_n dX7_spread_0 rfl rfl ?_
  refine V_getR dX7_spread_1 fl_X7_18 (by first | assumption | exact ⟨by decide, rfl⟩) (by first | assumption | rfl) ?_
  refine V_iconst (v := 0) dX7_spread_4 (by decide) (V_iload_n dX7_spread_5 rfl rfl ?_)
  refine V_ias dX7_spread_6 (by first | assumption | exact ⟨by decide, rfl⟩) ⟨nI_0.symm, by decide⟩ ?_
  refine V_aload_n dX7_spread_7 rfl rfl ?_
  refine V_getR dX7_spread_8 fl_X7_21 (by first | assumption | exact ⟨by decide, rfl⟩) (by first | assumption | rfl) ?_
  refine V_iconst (v := 0) dX7_spread_11 (by decide) (V_aload_n dX7_spread_12 rfl rfl ?_)
  refine V_getR dX7_spread_13 fl_X7_9 (by first | assumption | exact ⟨by decide, rfl⟩) (by first | assumption | rfl) ?_
  refine V_iload_n dX7_spread_16 rfl rfl ?_
  refine V_ial dX7_spread_17 (by first | assumption | exact ⟨by decide, rfl⟩) (show ix _ s 1024 from ⟨rfl, by omega⟩) ?_
  refine V_ias dX7_spread_18 (by first | assumption | exact ⟨by decide, rfl⟩) ⟨nI_0.symm, by decide⟩ ?_
  refine V_aload_n dX7_spread_19 rfl rfl (V_iconst (v := 1) dX7_spread_20 (by decide) ?_)
  refine V_putI dX7_spread_21 fl_X7_60 (by first | assumption | exact ⟨by decide, rfl⟩) ?_
  refine V_iconst (v := 0) dX7_spread_24 (by decide) (V_istore_3 dX7_spread_25 (by decide) rfl ?_)
  rw [u2n (by omega), ha]
  have key : ∀ q, q ≤ K 0 0 → ∀ (I1 : TI) (n : Nat), (∀ x y, (x ≠ 59 ∨ y ≠ 4) → x ≠ 62 → x ≠ 63 → I1 x y = I x y) → I1 59 4 = nI n → n ≤ 2 ^ q → REP I1 n (pt K s a q) → V E d M_X7_spread Post 26 [some (.ref 59), some (.ref e), some (.int (nI s)), some (.int (nI q))] [] NC 0 0 I1 J (RR co dr cc a1 a2) := by
    refine loop_up _ ?_ ?_
    · intro I1 n g1 g2 g3 g4
      have hX1 : CoX I1 e K := hX.of (fun x y q1 q2 => g1 x y (by omega) (by omega) (by omega))
      refine V_iload_n dX7_spread_26 rfl rfl (V_aload_n dX7_spread_27 rfl rfl ?_)
      refine V_getI dX7_spread_28 fl_X7_42 (by first | assumption | exact ⟨by decide, rfl⟩) ?_
      refine V_icmp_ge_t (tgt := 60) dX7_spread_31 (by decide) (by rw [hX1.1.1]; exact nI_le (Nat.le_refl _) (by omega)) ?_
      refine V_iconst (v := 0) dX7_spread_60 (by decide) (V_istore_3 dX7_spread_61 (by decide) rfl ?_)
      obtain ⟨bs, r1, r2, r3⟩ := g4
      have bl : ∀ b, b < n → bs b < 2 ^ K 0 0 := fun b hb => tb_lt (fun i hi => by
        have := (pt_sup K s a _ _ (r1 b hb).2.2).2 i
        cases hb2 : (bs b).testBit i
        · rfl
        · rcases this hb2 with h | h
          · rw [tb_big hs hi] at h; cases h
          · omega)
      have key2 : ∀ b, b ≤ n → ∀ I2 : TI, (∀ x y, x ≠ 61 → I2 x y = I1 x y) → (∀ t, t < 2 ^ K 0 0 → I2 61 t = nI (N t + fb_sm (fun b => if bs b = t then pt K s a (K 0 0) t else 0) b)) → V E d M_X7_spread Post 62 [some (.ref 59), some (.ref e), some (.int (nI s)), some (.int (nI b))] [] NC 0 0 I2 J (RR co dr cc a1 a2) := by
        refine loop_up _ ?_ ?_
        · intro I2 m1 m2
          refine V_iload_n dX7_spread_62 rfl rfl (V_aload_n dX7_spread_63 rfl rfl ?_)
          refine V_getI dX7_spread_64 fl_X7_60 (by first | assumption | exact ⟨by decide, rfl⟩) ?_
          refine V_icmp_ge_t (tgt := 96) dX7_spread_67 (by decide) (by rw [m1 _ _ (by omega), g2]; exact nI_le (Nat.le_refl _) (by omega)) ?_
          refine V_return dX7_spread_96 rfl rfl (by decide) (by decide) ?_
          refine Kk I2 (fun x y h1 h2 h3 h4 => by rw [m1 x y h2]; exact g1 x y h1 h3 h4) (fun t ht => ?_)
          rw [m2 t ht, rep_sum r2 r3]
        · intro b hb ih I2 m1 m2
          have hbl := bl b hb
          obtain ⟨z1, z2, z3⟩ := r1 b hb
          refine V_iload_n dX7_spread_62 rfl rfl (V_aload_n dX7_spread_63 rfl rfl ?_)
          refine V_getI dX7_spread_64 fl_X7_60 (by first | assumption | exact ⟨by decide, rfl⟩) ?_
          refine V_icmp_ge_f (tgt := 96) dX7_spread_67 (by decide) (by rw [m1 _ _ (by omega), g2]; exact nI_ge hb (by omega)) ?_
          refine V_aload_n dX7_spread_70 rfl rfl ?_
          refine V_getR dX7_spread_71 fl_X7_15 (by first | assumption | exact ⟨by decide, rfl⟩) (by first | assumption | rfl) ?_
          refine V_aload_n dX7_spread_74 rfl rfl ?_
          refine V_getR dX7_spread_75 fl_X7_18 (by first | assumption | exact ⟨by decide, rfl⟩) (by first | assumption | rfl) ?_
          refine V_iload_n dX7_spread_78 rfl rfl ?_
          refine V_ial dX7_spread_79 (by first | assumption | exact ⟨by decide, rfl⟩) (show ix _ b 1024 from ⟨rfl, by omega⟩) ?_
          refine V_dup2 dX7_spread_80 rfl rfl ?_
          refine V_ial dX7_spread_81 (by first | assumption | exact ⟨by decide, rfl⟩) (show ix _ (bs b) 1024 from ⟨by rw [m1 _ _ (by omega)]; exact z1, by omega⟩) ?_
          refine V_aload_n dX7_spread_82 rfl rfl ?_
          refine V_getR dX7_spread_83 fl_X7_21 (by first | assumption | exact ⟨by decide, rfl⟩) (by first | assumption | rfl) ?_
          refine V_iload_n dX7_spread_86 rfl rfl ?_
          refine V_ial dX7_spread_87 (by first | assumption | exact ⟨by decide, rfl⟩) (show ix _ b 1024 from ⟨rfl, by omega⟩) ?_
          refine V_iadd dX7_spread_88 ?_
          refine V_ias dX7_spread_89 (by first | assumption | exact ⟨by decide, rfl⟩) (show ix _ (bs b) 1024 from ⟨by rw [m1 _ _ (by omega)]; exact z1, by omega⟩) ?_
          refine V_iinc_3 (w := 1) dX7_spread_90 (by decide) (by decide) rfl (V_goto (tgt := 62) dX7_spread_93 (by decide) ?_)
          rw [nI_1]
          refine ih _ (fun x y h => by rw [u2n (by omega)]; exact m1 x y h) (fun t ht => ?_)
          by_cases htb : t = bs b
          · subst htb
            rw [u2e, m2 _ hbl, m1 _ _ (by omega), z2, nI_add, fb_sm_succ, if_pos rfl, Nat.add_assoc]
          · rw [u2n (Or.inr htb), m2 t ht, fb_sm_succ, if_neg (fun z => htb z.symm), Nat.add_zero]
      exact key2 0 (Nat.zero_le _) I1 (fun _ _ _ => rfl) (fun t ht => by rw [g1 _ _ (by omega) (by omega) (by omega)]; exact hN t ht)
    · intro q hq ih I1 n g1 g2 g3 g4
      have hX1 : CoX I1 e K := hX.of (fun x y q1 q2 => g1 x y (by omega) (by omega) (by omega))
      refine V_iload_n dX7_spread_26 rfl rfl (V_aload_n dX7_spread_27 rfl rfl ?_)
      refine V_getI dX7_spread_28 fl_X7_42 (by first | assumption | exact ⟨by decide, rfl⟩) ?_
      refine V_icmp_ge_f (tgt := 60) dX7_spread_31 (by decide) (by rw [hX1.1.1]; exact nI_ge hq (by omega)) ?_
      refine V_iload_n dX7_spread_34 rfl rfl (V_iload_n dX7_spread_35 rfl rfl ?_)
      refine V_cS2i (M' := M_X10_has) (d' := 1) dX7_spread_36 (Or.inr ⟨_, ml_X7_63⟩) kb_X10_has (by first | decide | omega) (by simp [Value.category]) ⟨by decide, by decide⟩ ?_
      refine sp_has (by omega) (by omega) ⟨_, rfl, ?_⟩
      cases hv : s.testBit q
      · refine V_if_ne_f (tgt := 54) dX7_spread_39 (by decide) (rfl) ?_
        refine V_aload_n dX7_spread_42 rfl rfl (V_iload_n dX7_spread_43 rfl rfl (V_aload_n dX7_spread_44 rfl rfl (V_aload_n dX7_spread_45 rfl rfl (V_iload_n dX7_spread_46 rfl rfl (V_iload_n dX7_spread_47 rfl rfl ?_)))))
        refine V_cV3i (M' := M_X7_staysWell) (d' := 2) dX7_spread_48 (Or.inl ml_X7_67) kb_X7_staysWell (by first | assumption | exact ⟨by decide, rfl⟩) (by first | decide | omega) (by simp [Value.category]) ⟨by decide, by decide⟩ ?_
        refine sp_staysWell (by omega) he hB hX1 (by omega) (by omega) ⟨_, rfl, ?_⟩
        have hq9 : 2 ^ q ≤ 512 := Nat.pow_le_pow_right (n := 2) (by decide) (show q ≤ 9 by omega)
        refine V_cV2v (M' := M_X7_divide) (d' := 1) dX7_spread_51 (Or.inl ml_X7_71) kb_X7_divide (by first | assumption | exact ⟨by decide, rfl⟩) (by first | decide | omega) (by simp [Value.category]) ⟨by decide, by decide⟩ ?_
        refine sp_divide g4 g2 (by omega) (by omega) (wlr_le _ _ _ _) (fun c hc => ?_) (fun c => Nat.le_trans (pt_le K s a q c) ha2) (fun I2 n' m1 m2 m3 m4 => ⟨rfl, ?_⟩)
        · cases hb : c.testBit q
          · rfl
          · rcases (pt_sup K s a q c hc).2 q hb with h | h
            · rw [hv] at h; cases h
            · omega
        · refine V_iinc_3 (w := 1) dX7_spread_54 (by decide) (by decide) rfl (V_goto (tgt := 26) dX7_spread_57 (by decide) ?_)
          rw [nI_1]
          refine ih I2 n' (fun x y h1 h2 h3 => by rw [m1 x y h1 h2 h3]; exact g1 x y h1 h2 h3) m3 (by rw [Nat.pow_succ]; omega) ?_
          rw [pt_f K hv]; exact m4
      · refine V_if_ne_t (tgt := 54) dX7_spread_39 (by decide) (by decide) ?_
        refine V_iinc_3 (w := 1) dX7_spread_54 (by decide) (by decide) rfl (V_goto (tgt := 26) dX7_spread_57 (by decide) ?_)
        rw [nI_1]
        refine ih I1 n g1 g2 (by rw [Nat.pow_succ]; omega) ?_
        rw [pt_t K hv]; exact g4
  refine key 0 (Nat.zero_le _) _ 1 (fun x y h1 h2 h3 => by rw [u2n (by omega), u2n (by omega), u2n (by omega)]) (by rw [u2e]; rfl) (Nat.le_refl _) ⟨fun _ => s, fun b hb => ?_, fun b b' h1 h2 _ => by omega, fun c hc => ⟨0, by omega, ?_⟩⟩
  · have hb0 : b = 0 := by omega
    subst hb0
    refine ⟨?_, ?_, ?_⟩
    · rw [u2n (by omega), u2n (by omega), u2e]
    · rw [u2n (by omega), u2e]; unfold pt; rw [if_pos rfl]
    · unfold pt; rw [if_pos rfl]; exact ha1
  · unfold pt at hc
    by_cases h : c = s
    · exact h.symm
    · rw [if_neg h] at hc; omega
theorem sp_passDay {d : Nat} {T : Nat → Nat} (hd : 4 ≤ d) (he : e = 4 ∨ e = 18) (hB : KB K) (hX : CoX I e K) (hT : ∀ s, s < 2 ^ K 0 0 → I 60 s = nI (T s)) (hS : fb_sm T (2 ^ K 0 0) = 1000000) (Kk : ∀ I', (∀ x y, (x ≠ 59 ∨ y ≠ 4) → x ≠ 60 → x ≠ 61 → x ≠ 62 → x ≠ 63 → I' x y = I x y) → (∀ t, t < 2 ^ K 0 0 → I' 60 t = nI (dayK K T t)) → Post none NC I' J (RR co dr cc a1 a2)) : Cal E d M_X7_passDay [.ref 59, .ref e] NC I J (RR co dr cc a1 a2) Post := by
  have hP := hB.1.1
  have hpw : 2 ^ K 0 0 ≤ 1024 := Nat.pow_le_pow_right (n := 2) (by decide) hP
  have hTl : ∀ s, s < 2 ^ K 0 0 → T s ≤ 1000000 := fun s hs => by
    have := fb_sm_part T hs
    omega
  obtain ⟨_, _, _, _, _, _, _, _, _, _, _, _, _, _, _, _, _, _, _, _, _, _, _⟩ := f_co (co := co) (dr := dr) (cc := cc) (a1 := a1) (a2 := a2) (he)
  refine Cal_of kn_X7_passDay rfl (Nat.le_of_ble_eq_true rfl) ?_
  refine V_iconst (v := 1) dX7_passDay_0 (by decide) (V_aload_n dX7_passDay_1 rfl rfl ?_)
  refine V_getI dX7_passDay_2 fl_X7_42 (by first | assumption | exact ⟨by decide, rfl⟩) ?_
  refine V_ishl dX7_passDay_5 (V_istore_2 dX7_passDay_6 (by decide) rfl (V_aload_n dX7_passDay_7 rfl rfl ?_))
  refine V_getR dX7_passDay_8 fl_X7_15 (by first | assumption | exact ⟨by decide, rfl⟩) (by first | assumption | rfl) ?_
  refine V_iconst (v := 0) dX7_passDay_11 (by decide) (V_iload_n dX7_passDay_12 rfl rfl (V_iconst (v := 0) dX7_passDay_13 (by decide) ?_))
  refine V_cS4v (M' := M_J7_fill_fda19) (d' := 2) dX7_passDay_14 (Or.inl ml_X7_47) kb_J7_fill_fda19 (by first | decide | omega) (by simp [Value.category]) ⟨by decide, by decide⟩ ?_
  rw [hX.1.1, shl1 (by omega)]
  refine sp_fill4 (k := 61) (len := 1024) (f := 0) (t := 2 ^ K 0 0) ⟨by decide, rfl⟩ (Nat.zero_le _) hpw (fun I1 g1 => ⟨rfl, ?_⟩)
  refine V_iconst (v := 0) dX7_passDay_17 (by decide) (V_istore_3 dX7_passDay_18 (by decide) rfl ?_)
  have key : ∀ s, s ≤ 2 ^ K 0 0 → ∀ I2 : TI, (∀ x y, (x ≠ 59 ∨ y ≠ 4) → x ≠ 61 → x ≠ 62 → x ≠ 63 → I2 x y = I x y) → (∀ t, t < 2 ^ K 0 0 → I2 61 t = nI (fb_sm (fun s => pt K s (T s) (K 0 0) t) s)) → V E d M_X7_passDay Post 19 [some (.ref 59), some (.ref e), some (.int (nI (2 ^ K 0 0))), some (.int (nI s))] [] NC 0 0 I2 J (RR co dr cc a1 a2) := by
    refine loop_up _ ?_ ?_
    · intro I2 m1 m2
      have ec : (nI (2 ^ K 0 0)).toNatClampNeg = 2 ^ K 0 0 := nI_clamp (by omega)
      have e0 : (0 : Int32).toNatClampNeg = 0 := by decide
      refine V_iload_n dX7_passDay_19 rfl rfl (V_iload_n dX7_passDay_20 rfl rfl ?_)
      refine V_icmp_ge_t (tgt := 45) dX7_passDay_21 (by decide) (nI_le (Nat.le_refl _) (by omega)) ?_
      refine V_aload_n dX7_passDay_45 rfl rfl ?_
      refine V_getR dX7_passDay_46 fl_X7_15 (by first | assumption | exact ⟨by decide, rfl⟩) (by first | assumption | rfl) ?_
      refine V_iconst (v := 0) dX7_passDay_49 (by decide) (V_aload_n dX7_passDay_50 rfl rfl ?_)
      refine V_getR dX7_passDay_51 fl_X7_9 (by first | assumption | exact ⟨by decide, rfl⟩) (by first | assumption | rfl) ?_
      refine V_iconst (v := 0) dX7_passDay_54 (by decide) (V_iload_n dX7_passDay_55 rfl rfl ?_)
      refine V_copy dX7_passDay_56 ml_X7_54 (by first | assumption | exact ⟨by decide, rfl⟩) (by first | assumption | exact ⟨by decide, rfl⟩) (by decide) (by decide) (nI_nn (by omega)) (by rw [ec, e0]; omega) (by rw [ec, e0]; omega) (by first | decide | omega) (by decide) ?_
      refine V_return dX7_passDay_59 rfl rfl (by decide) (by decide) ?_
      refine Kk _ (fun x y h1 h2 h3 h4 h5 => ?_) (fun t ht => ?_)
      · simp [cpy2, h2]; exact m1 x y h1 h3 h4 h5
      · simp [cpy2, va_cpy, ec, e0, ht]
        exact m2 t ht
    · intro s hs ih I2 m1 m2
      have hX2 : CoX I2 e K := hX.of (fun x y q1 q2 => m1 x y (by omega) (by omega) (by omega) (by omega))
      have t60 : I2 60 s = nI (T s) := by rw [m1 _ _ (by omega) (by omega) (by omega) (by omega)]; exact hT s hs
      have hl := hTl s hs
      by_cases h0 : T s = 0
      · refine V_iload_n dX7_passDay_19 rfl rfl (V_iload_n dX7_passDay_20 rfl rfl ?_)
        refine V_icmp_ge_f (tgt := 45) dX7_passDay_21 (by decide) (nI_ge hs (by omega)) ?_
        refine V_aload_n dX7_passDay_24 rfl rfl ?_
        refine V_getR dX7_passDay_25 fl_X7_9 (by first | assumption | exact ⟨by decide, rfl⟩) (by first | assumption | rfl) ?_
        refine V_iload_n dX7_passDay_28 rfl rfl ?_
        refine V_ial dX7_passDay_29 (by first | assumption | exact ⟨by decide, rfl⟩) (show ix _ s 1024 from ⟨rfl, by omega⟩) ?_
        refine V_if_le_t (tgt := 39) dX7_passDay_30 (by decide) (by rw [t60, h0]; decide) ?_
        refine V_iinc_3 (w := 1) dX7_passDay_39 (by decide) (by decide) rfl (V_goto (tgt := 19) dX7_passDay_42 (by decide) ?_)
        rw [nI_1]
        refine ih I2 m1 (fun t ht => ?_)
        rw [m2 t ht, fb_sm_succ, h0, pt_zero, Nat.add_zero]
      · refine V_iload_n dX7_passDay_19 rfl rfl (V_iload_n dX7_passDay_20 rfl rfl ?_)
        refine V_icmp_ge_f (tgt := 45) dX7_passDay_21 (by decide) (nI_ge hs (by omega)) ?_
        refine V_aload_n dX7_passDay_24 rfl rfl ?_
        refine V_getR dX7_passDay_25 fl_X7_9 (by first | assumption | exact ⟨by decide, rfl⟩) (by first | assumption | rfl) ?_
        refine V_iload_n dX7_passDay_28 rfl rfl ?_
        refine V_ial dX7_passDay_29 (by first | assumption | exact ⟨by decide, rfl⟩) (show ix _ s 1024 from ⟨rfl, by omega⟩) ?_
        refine V_if_le_f (tgt := 39) dX7_passDay_30 (by decide) (by rw [t60, show (0 : Int32) = nI 0 from rfl, lit_le (by omega) (by omega)]; omega) ?_
        refine V_aload_n dX7_passDay_33 rfl rfl (V_aload_n dX7_passDay_34 rfl rfl (V_iload_n dX7_passDay_35 rfl rfl ?_))
        refine V_cV2v (M' := M_X7_spread) (d' := 3) dX7_passDay_36 (Or.inl ml_X7_50) kb_X7_spread (by first | assumption | exact ⟨by decide, rfl⟩) (by first | decide | omega) (by simp [Value.category]) ⟨by decide, by decide⟩ ?_
        refine sp_spread (by omega) he hB hX2 hs t60 (by omega) hl m2 (fun I3 n1 n2 => ⟨rfl, ?_⟩)
        refine V_iinc_3 (w := 1) dX7_passDay_39 (by decide) (by decide) rfl (V_goto (tgt := 19) dX7_passDay_42 (by decide) ?_)
        rw [nI_1]
        refine ih I3 (fun x y h1 h2 h3 h4 => by rw [n1 x y h1 h2 h3 h4]; exact m1 x y h1 h2 h3 h4) (fun t ht => ?_)
        rw [n2 t ht, fb_sm_succ]
  refine key 0 (Nat.zero_le _) I1 (fun x y h1 h2 h3 h4 => ?_) (fun t ht => ?_)
  · rw [g1, if_neg (fun z => h2 z.1)]
  · rw [g1, if_pos ⟨rfl, by omega, ht⟩]; rfl
end
