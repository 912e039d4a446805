/-! isMet, cheapestCut, findWeak -/
def ANS (I : TI) (K : KT) : Prop := ∀ s, s < 2 ^ K 0 0 → I 49 s = 0 ∨ (I 49 s = 1 ∧ metB K s 0 = true) ∨ (I 49 s = 2 ∧ metB K s 0 = false)
theorem ANS.of {I I' : TI} {K : KT} (h : ANS I K) (he : ∀ b, I' 49 b = I 49 b) : ANS I' K := fun s hs => by rw [he]; exact h s hs
/-- the first cheapest set of cuts among those below s -/
noncomputable def ccut (K : KT) (off : Nat) : Nat → Option Nat
  | 0 => none
  | s + 1 => if andn s (cutM K) = 0 ∧ (∀ f, ccut K off s = some f → lsum K s < lsum K f) ∧ metB K off s = true then some s else ccut K off s
noncomputable def wk (K : KT) (k s : Nat) : Bool := decide (pop s = k) && !metB K s 0
theorem cutM_lt (K : KT) : cutM K < 2 ^ K 0 1 := mk_lt _ _
theorem pop2_ct (k : Nat) (hk : k ≤ 2) : ∀ n, n ≤ 1024 → fb_ct (fun s => decide (pop s = k)) n ≤ 45 := by
  have h : fb_ct (fun s => decide (pop s = k)) 1024 ≤ 45 := by
    rcases (show k = 0 ∨ k = 1 ∨ k = 2 by omega) with rfl | rfl | rfl <;> decide +kernel
  intro n hn
  have := fb_ct_split (fun s => decide (pop s = k)) n (1024 - n)
  rw [show n + (1024 - n) = 1024 by omega] at this
  omega
theorem wk_ct (K : KT) {k : Nat} (hk : k ≤ 2) {n : Nat} (hn : n ≤ 1024) : fb_ct (wk K k) n ≤ 45 := by
  refine Nat.le_trans (fb_ct_sub (fun s _ h => ?_)) (pop2_ct k hk n hn)
  unfold wk at h
  simp at h
  simpa using h.1
section
variable {E : En} {I : TI} {J : TJ} {co dr : Nat} {cc a1 a2 : Option Nat} {Post : PT} {e : Nat} {K : KT} {off : Nat}
theorem at1_50 (e : Nat) (o : Option Nat) : at1 50 e o = some e := rfl
theorem at2_50 (e : Nat) (o : Option Nat) : at2 50 e o = o := rfl
theorem at1_54 (e : Nat) (o : Option Nat) : at1 54 e o = o := rfl
theorem at2_54 (e : Nat) (o : Option Nat) : at2 54 e o = some e := rfl
theorem sp_isMet {d : Nat} (hd : 13 ≤ d) (he : e = 4 ∨ e = 18) (hB : KB K) (hX : CoX I e K) (hS : SX I e K) (hN : ANS I K) (ho : off < 2 ^ K 0 0) (Kk : ∀ I' b1, (∀ x y, x ≠ 49 → x ≠ 50 → x ≠ 51 → I' x y = I x y) → ANS I' K → Post (some (.int (b2i (metB K off 0)))) NC I' J (RR co dr cc b1 a2)) : Cal E d M_X0_isMet [.ref 48, .ref e, .int (nI off)] NC I J (RR co dr cc a1 a2) Post := by
  have hP := hB.1.1
  have hpw : 2 ^ K 0 0 ≤ 1024 := Nat.pow_le_pow_right (n := 2) (by decide) hP
  refine Cal_of kn_X0_isMet rfl (Nat.le_of_ble_eq_true rfl) ?_
  have fin : ∀ I' b1 ls, (∀ x y, x ≠ 49 → x ≠ 50 → x ≠ 51 → I' x y = I x y) → ANS I' K → ls[0]? = some (some (.ref 48)) → ls[2]? = some (some (.int (nI off))) → (I' 49 off = 1 ∧ metB K off 0 = true) ∨ (I' 49 off = 2 ∧ metB K off 0 = false) → V E d M_X0_isMet Post 40 ls [] NC 0 0 I' J (RR co dr cc b1 a2) := by
    intro I' b1 ls g1 g2 e0 e2 h
    refine V_aload_n dX0_isMet_40 rfl e0 ?_
    refine V_getR dX0_isMet_41 fl_X0_9 (by first | assumption | exact ⟨by decide, rfl⟩) (by first | assumption | rfl) ?_
    refine V_iload_n dX0_isMet_44 rfl e2 ?_
    have := Kk I' b1 g1 g2
    rcases h with ⟨h1, h2⟩ | ⟨h1, h2⟩
    · refine V_ial dX0_isMet_45 (by first | assumption | exact ⟨by decide, rfl⟩) (show ix _ off 1024 from ⟨rfl, by omega⟩) ?_
      refine V_iconst (v := 1) dX0_isMet_46 (by decide) ?_
      refine V_icmp_ne_f (tgt := 54) dX0_isMet_47 (by decide) (by rw [h1]) ?_
      refine V_iconst (v := 1) dX0_isMet_50 (by decide) (V_goto (tgt := 55) dX0_isMet_51 (by decide) ?_)
      refine V_ireturn dX0_isMet_55 rfl rfl rfl (by decide) (by decide) ?_
      rw [h2] at this
      exact this
    · refine V_ial dX0_isMet_45 (by first | assumption | exact ⟨by decide, rfl⟩) (show ix _ off 1024 from ⟨rfl, by omega⟩) ?_
      refine V_iconst (v := 1) dX0_isMet_46 (by decide) ?_
      refine V_icmp_ne_t (tgt := 54) dX0_isMet_47 (by decide) (by rw [h1]; decide) ?_
      refine V_iconst (v := 0) dX0_isMet_54 (by decide) ?_
      refine V_ireturn dX0_isMet_55 rfl rfl rfl (by decide) (by decide) ?_
      rw [h2] at this
      exact this
  rcases hN off ho with h | h
  · refine V_aload_n dX0_isMet_0 rfl rfl ?_
    refine V_getR dX0_isMet_1 fl_X0_9 (by first | assumption | exact ⟨by decide, rfl⟩) (by first | assumption | rfl) ?_
    refine V_iload_n dX0_isMet_4 rfl rfl ?_
    refine V_ial dX0_isMet_5 (by first | assumption | exact ⟨by decide, rfl⟩) (show ix _ off 1024 from ⟨rfl, by omega⟩) ?_
    refine V_if_ne_f (tgt := 40) dX0_isMet_6 (by decide) (by rw [h]) ?_
    refine V_aload_n dX0_isMet_9 rfl rfl ?_
    refine V_getR dX0_isMet_10 fl_X0_18 (by first | assumption | exact ⟨by decide, rfl⟩) (by first | assumption | rfl) ?_
    refine V_aload_n dX0_isMet_13 rfl rfl (V_iload_n dX0_isMet_14 rfl rfl (V_iconst (v := 0) dX0_isMet_15 (by decide) ?_))
    refine V_cV3v (M' := M_X1_begin) (d' := 1) dX0_isMet_16 (Or.inl ml_X0_31) kb_X1_begin (by first | assumption | exact ⟨by decide, rfl⟩) (by first | decide | omega) (by simp [Value.category]) ⟨by decide, by decide⟩ ?_
    rw [show (0 : Int32) = nI 0 from rfl]
    refine sp_atBegin (Or.inl rfl) he hB hX hS (fun I1 g1 gA => ⟨rfl, ?_⟩)
    rw [at1_50, at2_50]
    refine V_aload_n dX0_isMet_19 rfl rfl ?_
    refine V_getR dX0_isMet_20 fl_X0_9 (by first | assumption | exact ⟨by decide, rfl⟩) (by first | assumption | rfl) ?_
    refine V_iload_n dX0_isMet_23 rfl rfl (V_aload_n dX0_isMet_24 rfl rfl ?_)
    refine V_getR dX0_isMet_25 fl_X0_18 (by first | assumption | exact ⟨by decide, rfl⟩) (by first | assumption | rfl) ?_
    refine V_cV0i (M' := M_X1_succeeds) (d' := 12) dX0_isMet_28 (Or.inl ml_X0_35) kb_X1_succeeds (by first | assumption | exact ⟨by decide, rfl⟩) (by first | decide | omega) (by simp [Value.category]) ⟨by decide, by decide⟩ ?_
    have hX1 : CoX I1 e K := hX.of (fun x y q1 q2 => g1 x y (by omega) (by omega))
    have hS1 : SX I1 e K := hS.of (fun b => ⟨g1 _ b (by omega) (by omega), g1 _ b (by omega) (by omega)⟩)
    refine sp_succeeds (by omega) (Or.inl rfl) he hB hX1 hS1 rfl gA (opn0_lt _ _) (fun j _ => lft0_lt K off j) (fun I2 g2 => ⟨_, rfl, ?_⟩)
    rw [← metB_ex]
    have g12 : ∀ x y, x ≠ 50 → x ≠ 51 → I2 x y = I x y := fun x y h1 h2 => by rw [g2 x y h2]; exact g1 x y h1 h2
    cases hm : metB K off 0
    · refine V_if_eq_t (tgt := 38) dX0_isMet_31 (by decide) (rfl) ?_
      refine V_iconst (v := 2) dX0_isMet_38 (by decide) ?_
      refine V_ias dX0_isMet_39 (by first | assumption | exact ⟨by decide, rfl⟩) (show ix _ off 1024 from ⟨rfl, by omega⟩) ?_
      refine fin _ _ _ (fun x y h1 h2 h3 => by rw [u2n (by omega)]; exact g12 x y h2 h3) (fun s hs => ?_) rfl rfl (Or.inr ⟨by rw [u2e], hm⟩)
      by_cases hso : s = off
      · subst hso; rw [u2e]; exact Or.inr (Or.inr ⟨rfl, hm⟩)
      · rw [u2n (by omega), g12 _ _ (by omega) (by omega)]; exact hN s hs
    · refine V_if_eq_f (tgt := 38) dX0_isMet_31 (by decide) (by decide) ?_
      refine V_iconst (v := 1) dX0_isMet_34 (by decide) (V_goto (tgt := 39) dX0_isMet_35 (by decide) ?_)
      refine V_ias dX0_isMet_39 (by first | assumption | exact ⟨by decide, rfl⟩) (show ix _ off 1024 from ⟨rfl, by omega⟩) ?_
      refine fin _ _ _ (fun x y h1 h2 h3 => by rw [u2n (by omega)]; exact g12 x y h2 h3) (fun s hs => ?_) rfl rfl (Or.inl ⟨by rw [u2e], hm⟩)
      by_cases hso : s = off
      · subst hso; rw [u2e]; exact Or.inr (Or.inl ⟨rfl, hm⟩)
      · rw [u2n (by omega), g12 _ _ (by omega) (by omega)]; exact hN s hs
  · refine V_aload_n dX0_isMet_0 rfl rfl ?_
    refine V_getR dX0_isMet_1 fl_X0_9 (by first | assumption | exact ⟨by decide, rfl⟩) (by first | assumption | rfl) ?_
    refine V_iload_n dX0_isMet_4 rfl rfl ?_
    refine V_ial dX0_isMet_5 (by first | assumption | exact ⟨by decide, rfl⟩) (show ix _ off 1024 from ⟨rfl, by omega⟩) ?_
    refine V_if_ne_t (tgt := 40) dX0_isMet_6 (by decide) (by rcases h with h | h <;> rw [h.1] <;> decide) ?_
    exact fin I a1 _ (fun _ _ _ _ _ => rfl) hN rfl rfl h
def onI (o : Option Nat) : Int32 := match o with | none => -4 | some v => nI v
theorem nI_ne4 {n : Nat} (h : n < 2 ^ 31) : nI n ≠ (-4 : Int32) := fun z => by
  have := congrArg Int32.toInt z
  rw [nI_toInt h] at this
  have e : (-4 : Int32).toInt = -4 := by decide
  omega
theorem sp_cheapestCut {d : Nat} (hd : 13 ≤ d) (he : e = 4 ∨ e = 18) (hB : KB K) (hX : CoX I e K) (hS : SX I e K) (Kk : ∀ I' b1, (∀ x y, x ≠ 50 → x ≠ 51 → I' x y = I x y) → Post (some (.int (onI (ccut K off (2 ^ K 0 1))))) NC I' J (RR co dr cc b1 a2)) : Cal E d M_X0_cheapestCut [.ref 48, .ref e, .int (nI off)] NC I J (RR co dr cc a1 a2) Post := by
  have hQ := hB.1.2.1
  have hqw : 2 ^ K 0 1 ≤ 256 := Nat.pow_le_pow_right (n := 2) (by decide) hQ
  obtain ⟨_, _, _, _, _, _, _, _, _, _, _, _, _, _, _, _, _, _, _, _, _, _, _⟩ := f_co (co := co) (dr := dr) (cc := cc) (a1 := a1) (a2 := a2) (he)
  refine Cal_of kn_X0_cheapestCut rfl (Nat.le_of_ble_eq_true rfl) ?_
  refine V_bipush (v := (-4)) dX0_cheapestCut_0 (by decide) (V_istore_3 dX0_cheapestCut_2 (by decide) rfl (V_iconst (v := 0) dX0_cheapestCut_3 (by decide) (V_istore_4 dX0_cheapestCut_4 (by decide) rfl (V_iconst (v := 0) dX0_cheapestCut_6 (by decide) (V_istore_5 dX0_cheapestCut_7 (by decide) rfl ?_)))))
  have key : ∀ s, s ≤ 2 ^ K 0 1 → ∀ (I1 : TI) (b1 : Option Nat) (fl : Nat), (∀ x y, x ≠ 50 → x ≠ 51 → I1 x y = I x y) → (∀ f, ccut K off s = some f → fl = lsum K f) → (∀ f, ccut K off s = some f → f < s) → fl < 2 ^ 31 → V E d M_X0_cheapestCut Post 9 [some (.ref 48), some (.ref e), some (.int (nI off)), some (.int (onI (ccut K off s))), some (.int (nI fl)), some (.int (nI s)), none] [] NC 0 0 I1 J (RR co dr cc b1 a2) := by
    refine loop_up _ ?_ ?_
    · intro I1 b1 fl g1 g2 g3 g4
      have hX1 : CoX I1 e K := hX.of (fun x y q1 q2 => g1 x y (by omega) (by omega))
      refine V_iload dX0_cheapestCut_9 rfl (V_iconst (v := 1) dX0_cheapestCut_11 (by decide) (V_aload_n dX0_cheapestCut_12 rfl rfl ?_))
      refine V_getI dX0_cheapestCut_13 fl_X0_39 (by first | assumption | exact ⟨by decide, rfl⟩) ?_
      refine V_ishl dX0_cheapestCut_16 ?_
      refine V_icmp_ge_t (tgt := 90) dX0_cheapestCut_17 (by decide) (by rw [hX1.1.2.1, shl1 (by omega)]; exact nI_le (Nat.le_refl _) (by omega)) ?_
      refine V_iload_n dX0_cheapestCut_90 rfl rfl ?_
      refine V_ireturn dX0_cheapestCut_91 rfl rfl rfl (by decide) (by decide) ?_
      exact Kk I1 b1 g1
    · intro s hs ih I1 b1 fl g1 g2 g3 g4
      have hX1 : CoX I1 e K := hX.of (fun x y q1 q2 => g1 x y (by omega) (by omega))
      have hS1 : SX I1 e K := hS.of (fun b => ⟨g1 _ b (by omega) (by omega), g1 _ b (by omega) (by omega)⟩)
      have no : ∀ I2 c1 ls, (∀ x y, x ≠ 50 → x ≠ 51 → I2 x y = I x y) → ccut K off (s + 1) = ccut K off s → lessb [some (.ref 48), some (.ref e), some (.int (nI off)), some (.int (onI (ccut K off s))), some (.int (nI fl)), some (.int (nI s)), none] ls → V E d M_X0_cheapestCut Post 84 ls [] NC 0 0 I2 J (RR co dr cc c1 a2) := by
        intro I2 c1 ls k1 k2 k3
        refine V_forget ?_ k3
        refine V_iinc_5 (w := 1) dX0_cheapestCut_84 (by decide) (by decide) rfl (V_goto (tgt := 9) dX0_cheapestCut_87 (by decide) ?_)
        rw [nI_1, ← k2]
        refine ih I2 c1 fl k1 ?_ ?_ g4
        · rw [k2]; exact g2
        · rw [k2]; exact fun f hf => Nat.lt_succ_of_lt (g3 f hf)
      have hC : I1 e 10 = nI (cutM K) := hX1.1.2.2.2.1
      by_cases hsub : andn s (cutM K) = 0
      · refine V_iload dX0_cheapestCut_9 rfl (V_iconst (v := 1) dX0_cheapestCut_11 (by decide) (V_aload_n dX0_cheapestCut_12 rfl rfl ?_))
        refine V_getI dX0_cheapestCut_13 fl_X0_39 (by first | assumption | exact ⟨by decide, rfl⟩) ?_
        refine V_ishl dX0_cheapestCut_16 ?_
        refine V_icmp_ge_f (tgt := 90) dX0_cheapestCut_17 (by decide) (by rw [hX1.1.2.1, shl1 (by omega)]; exact nI_ge hs (by omega)) ?_
        refine V_iload dX0_cheapestCut_20 rfl (V_aload_n dX0_cheapestCut_22 rfl rfl ?_)
        refine V_getI dX0_cheapestCut_23 fl_X0_45 (by first | assumption | exact ⟨by decide, rfl⟩) ?_
        refine V_iconst (v := (-1)) dX0_cheapestCut_26 (by decide) (V_ixor dX0_cheapestCut_27 (V_iand dX0_cheapestCut_28 ?_))
        refine V_if_eq_t (tgt := 35) dX0_cheapestCut_29 (by decide) (by rw [hC, andn_nI, hsub]; rfl) ?_
        refine V_aload_n dX0_cheapestCut_35 rfl rfl (V_iload dX0_cheapestCut_36 rfl ?_)
        refine V_cV1i (M' := M_X3_linesTogether) (d' := 2) dX0_cheapestCut_38 (Or.inl ml_X0_48) kb_X3_linesTogether (by first | assumption | exact ⟨by decide, rfl⟩) (by first | decide | omega) (by simp [Value.category]) ⟨by decide, by decide⟩ ?_
        refine sp_linesTogether he hB hX1 (by omega) ⟨_, rfl, ?_⟩
        refine V_istore_6 dX0_cheapestCut_41 (by decide) rfl (V_aload_n dX0_cheapestCut_43 rfl rfl ?_)
        refine V_getR dX0_cheapestCut_44 fl_X0_18 (by first | assumption | exact ⟨by decide, rfl⟩) (by first | assumption | rfl) ?_
        refine V_aload_n dX0_cheapestCut_47 rfl rfl (V_iload_n dX0_cheapestCut_48 rfl rfl (V_iload dX0_cheapestCut_49 rfl ?_))
        refine V_cV3v (M' := M_X1_begin) (d' := 1) dX0_cheapestCut_51 (Or.inl ml_X0_31) kb_X1_begin (by first | assumption | exact ⟨by decide, rfl⟩) (by first | decide | omega) (by simp [Value.category]) ⟨by decide, by decide⟩ ?_
        refine sp_atBegin (Or.inl rfl) he hB hX1 hS1 (fun I2 m1 mA => ⟨rfl, ?_⟩)
        rw [at1_50, at2_50]
        have m12 : ∀ x y, x ≠ 50 → x ≠ 51 → I2 x y = I x y := fun x y h1 h2 => by rw [m1 x y h1 h2]; exact g1 x y h1 h2
        have hX2 : CoX I2 e K := hX.of (fun x y q1 q2 => m12 x y (by omega) (by omega))
        have hS2 : SX I2 e K := hS.of (fun b => ⟨m12 _ b (by omega) (by omega), m12 _ b (by omega) (by omega)⟩)
        have hls := lsum_le hB s
        by_cases hbt : ∀ f, ccut K off s = some f → lsum K s < lsum K f
        · have hgo : V E d M_X0_cheapestCut Post 67 [some (.ref 48), some (.ref e), some (.int (nI off)), some (.int (onI (ccut K off s))), some (.int (nI fl)), some (.int (nI s)), some (.int (nI (lsum K s)))] [] NC 0 0 I2 J (RR co dr cc (some e) a2) := by
            refine V_aload_n dX0_cheapestCut_67 rfl rfl ?_
            refine V_getR dX0_cheapestCut_68 fl_X0_18 (by first | assumption | exact ⟨by decide, rfl⟩) (by first | assumption | rfl) ?_
            refine V_cV0i (M' := M_X1_succeeds) (d' := 12) dX0_cheapestCut_71 (Or.inl ml_X0_35) kb_X1_succeeds (by first | assumption | exact ⟨by decide, rfl⟩) (by first | decide | omega) (by simp [Value.category]) ⟨by decide, by decide⟩ ?_
            refine sp_succeeds (by omega) (Or.inl rfl) he hB hX2 hS2 rfl mA (opn0_lt _ _) (fun j _ => lft0_lt K off j) (fun I3 n1 => ⟨_, rfl, ?_⟩)
            rw [← metB_ex]
            have n12 : ∀ x y, x ≠ 50 → x ≠ 51 → I3 x y = I x y := fun x y h1 h2 => by rw [n1 x y h2]; exact m12 x y h1 h2
            cases hm : metB K off s
            · refine V_if_eq_t (tgt := 84) dX0_cheapestCut_74 (by decide) (rfl) ?_
              refine no I3 _ _ n12 ?_ (by simp [lessb])
              rw [ccut, if_neg (by rw [hm]; simp)]
            · refine V_if_eq_f (tgt := 84) dX0_cheapestCut_74 (by decide) (by decide) ?_
              refine V_iload dX0_cheapestCut_77 rfl (V_istore_3 dX0_cheapestCut_79 (by decide) rfl (V_iload dX0_cheapestCut_80 rfl (V_istore_4 dX0_cheapestCut_82 (by decide) rfl (V_iinc_5 (w := 1) dX0_cheapestCut_84 (by decide) (by decide) rfl (V_goto (tgt := 9) dX0_cheapestCut_87 (by decide) ?_)))))
              have k2 : ccut K off (s + 1) = some s := by rw [ccut, if_pos ⟨hsub, hbt, hm⟩]
              rw [nI_1, show nI s = onI (ccut K off (s + 1)) by rw [k2]; rfl]
              refine V_forget (ih I3 _ (lsum K s) n12 ?_ ?_ (by omega)) (by rw [k2]; simp [lessb, onI])
              · rw [k2]; intro f hf; cases hf; rfl
              · rw [k2]; intro f hf; cases hf; omega
          cases hcc : ccut K off s with
          | none =>
            rw [hcc] at hgo
            refine V_iload_n dX0_cheapestCut_54 rfl rfl (V_bipush (v := (-4)) dX0_cheapestCut_55 (by decide) ?_)
            refine V_icmp_eq_t (tgt := 67) dX0_cheapestCut_57 (by decide) (rfl) ?_
            exact hgo
          | some f =>
            rw [hcc] at hgo
            have hf := g3 f hcc
            have hfl := g2 f hcc
            have := hbt f hcc
            refine V_iload_n dX0_cheapestCut_54 rfl rfl (V_bipush (v := (-4)) dX0_cheapestCut_55 (by decide) ?_)
            refine V_icmp_eq_f (tgt := 67) dX0_cheapestCut_57 (by decide) (nI_ne4 (by omega)) ?_
            refine V_iload dX0_cheapestCut_60 rfl (V_iload dX0_cheapestCut_62 rfl ?_)
            refine V_icmp_ge_f (tgt := 84) dX0_cheapestCut_64 (by decide) (by rw [lit_le (by omega) (by omega)]; omega) ?_
            exact hgo
        · have hex : ∃ f, ccut K off s = some f ∧ lsum K f ≤ lsum K s := by
            refine Classical.byContradiction (fun hn => hbt (fun f hf => Nat.lt_of_not_le (fun hh => hn ⟨f, hf, hh⟩)))
          obtain ⟨f, hcc, hle⟩ := hex
          have hf := g3 f hcc
          have hfl := g2 f hcc
          have k2 : ccut K off (s + 1) = ccut K off s := by rw [ccut, if_neg (fun z => hbt z.2.1)]
          have no2 := no I2 (some e) [some (.ref 48), some (.ref e), some (.int (nI off)), some (.int (onI (ccut K off s))), some (.int (nI fl)), some (.int (nI s)), some (.int (nI (lsum K s)))] m12 k2 (by simp [lessb])
          rw [hcc] at no2 ⊢
          refine V_iload_n dX0_cheapestCut_54 rfl rfl (V_bipush (v := (-4)) dX0_cheapestCut_55 (by decide) ?_)
          refine V_icmp_eq_f (tgt := 67) dX0_cheapestCut_57 (by decide) (nI_ne4 (by omega)) ?_
          refine V_iload dX0_cheapestCut_60 rfl (V_iload dX0_cheapestCut_62 rfl ?_)
          refine V_icmp_ge_t (tgt := 84) dX0_cheapestCut_64 (by decide) (by rw [lit_le (by omega) (by omega)]; omega) ?_
          exact no2
      · refine V_iload dX0_cheapestCut_9 rfl (V_iconst (v := 1) dX0_cheapestCut_11 (by decide) (V_aload_n dX0_cheapestCut_12 rfl rfl ?_))
        refine V_getI dX0_cheapestCut_13 fl_X0_39 (by first | assumption | exact ⟨by decide, rfl⟩) ?_
        refine V_ishl dX0_cheapestCut_16 ?_
        refine V_icmp_ge_f (tgt := 90) dX0_cheapestCut_17 (by decide) (by rw [hX1.1.2.1, shl1 (by omega)]; exact nI_ge hs (by omega)) ?_
        refine V_iload dX0_cheapestCut_20 rfl (V_aload_n dX0_cheapestCut_22 rfl rfl ?_)
        refine V_getI dX0_cheapestCut_23 fl_X0_45 (by first | assumption | exact ⟨by decide, rfl⟩) ?_
        refine V_iconst (v := (-1)) dX0_cheapestCut_26 (by decide) (V_ixor dX0_cheapestCut_27 (V_iand dX0_cheapestCut_28 ?_))
        refine V_if_eq_f (tgt := 35) dX0_cheapestCut_29 (by decide) (by rw [hC, andn_nI, ← nI_0]; exact fun z => hsub ((nI_eq (lt31 (andn_lt (n := 8) (by omega)) (by decide)) (by decide)).mp z)) ?_
        refine V_goto (tgt := 84) dX0_cheapestCut_32 (by decide) ?_
        refine no I1 b1 _ g1 ?_ (by simp [lessb])
        rw [ccut, if_neg (fun z => hsub z.1)]
  exact key 0 (Nat.zero_le _) I a1 0 (fun _ _ _ _ => rfl) (fun f hf => by cases hf) (fun f hf => by cases hf) (by decide)
/-- the sets that are weak, as they come -/
def WKS (I : TI) (K : KT) (k n : Nat) : Prop := ∀ s, s < n → wk K k s = true → I 52 (fb_ct (wk K k) s) = nI s
theorem sp_findWeak {d k : Nat} (hd : 14 ≤ d) (he : e = 4 ∨ e = 18) (hB : KB K) (hX : CoX I e K) (hS : SX I e K) (hN : ANS I K) (hk : k = 1 ∨ k = 2) (Kk : ∀ I' b1, (∀ x y, x ≠ 48 → x ≠ 49 → x ≠ 50 → x ≠ 51 → x ≠ 52 → I' x y = I x y) → ANS I' K → I' 48 3 = nI (fb_ct (wk K k) (2 ^ K 0 0)) → WKS I' K k (2 ^ K 0 0) → Post none NC I' J (RR co dr cc b1 a2)) : Cal E d M_X0_findWeak [.ref 48, .ref e, .int (nI k)] NC I J (RR co dr cc a1 a2) Post := by
  have hP := hB.1.1
  have hpw : 2 ^ K 0 0 ≤ 1024 := Nat.pow_le_pow_right (n := 2) (by decide) hP
  obtain ⟨_, _, _, _, _, _, _, _, _, _, _, _, _, _, _, _, _, _, _, _, _, _, _⟩ := f_co (co := co) (dr := dr) (cc := cc) (a1 := a1) (a2 := a2) (he)
  refine Cal_of kn_X0_findWeak rfl (Nat.le_of_ble_eq_true rfl) ?_
  refine V_aload_n dX0_findWeak_0 rfl rfl (V_iconst (v := 0) dX0_findWeak_1 (by decide) ?_)
  refine V_putI dX0_findWeak_2 fl_X0_52 (by first | assumption | exact ⟨by decide, rfl⟩) ?_
  refine V_iconst (v := 1) dX0_findWeak_5 (by decide) (V_istore_3 dX0_findWeak_6 (by decide) rfl ?_)
  have key : ∀ s, s ≤ 2 ^ K 0 0 → 1 ≤ s → ∀ (I1 : TI) (b1 : Option Nat), (∀ x y, x ≠ 48 → x ≠ 49 → x ≠ 50 → x ≠ 51 → x ≠ 52 → I1 x y = I x y) → ANS I1 K → I1 48 3 = nI (fb_ct (wk K k) s) → WKS I1 K k s → V E d M_X0_findWeak Post 7 [some (.ref 48), some (.ref e), some (.int (nI k)), some (.int (nI s))] [] NC 0 0 I1 J (RR co dr cc b1 a2) := by
    refine loop_up _ ?_ ?_
    · intro _ I1 b1 g1 g2 g3 g4
      have hX1 : CoX I1 e K := hX.of (fun x y q1 q2 => g1 x y (by omega) (by omega) (by omega) (by omega) (by omega))
      refine V_iload_n dX0_findWeak_7 rfl rfl (V_iconst (v := 1) dX0_findWeak_8 (by decide) (V_aload_n dX0_findWeak_9 rfl rfl ?_))
      refine V_getI dX0_findWeak_10 fl_X0_55 (by first | assumption | exact ⟨by decide, rfl⟩) ?_
      refine V_ishl dX0_findWeak_13 ?_
      refine V_icmp_ge_t (tgt := 60) dX0_findWeak_14 (by decide) (by rw [hX1.1.1, shl1 (by omega)]; exact nI_le (Nat.le_refl _) (by omega)) ?_
      refine V_return dX0_findWeak_60 rfl rfl (by decide) (by decide) ?_
      exact Kk I1 b1 g1 g2 g3 g4
    · intro s hs ih hs1 I1 b1 g1 g2 g3 g4
      have hX1 : CoX I1 e K := hX.of (fun x y q1 q2 => g1 x y (by omega) (by omega) (by omega) (by omega) (by omega))
      have hS1 : SX I1 e K := hS.of (fun b => ⟨g1 _ b (by omega) (by omega) (by omega) (by omega) (by omega), g1 _ b (by omega) (by omega) (by omega) (by omega) (by omega)⟩)
      have hct := wk_ct K (k := k) (by omega) (n := s) (by omega)
      refine V_iload_n dX0_findWeak_7 rfl rfl (V_iconst (v := 1) dX0_findWeak_8 (by decide) (V_aload_n dX0_findWeak_9 rfl rfl ?_))
      refine V_getI dX0_findWeak_10 fl_X0_55 (by first | assumption | exact ⟨by decide, rfl⟩) ?_
      refine V_ishl dX0_findWeak_13 ?_
      refine V_icmp_ge_f (tgt := 60) dX0_findWeak_14 (by decide) (by rw [hX1.1.1, shl1 (by omega)]; exact nI_ge hs (by omega)) ?_
      refine V_iload_n dX0_findWeak_17 rfl rfl ?_
      refine V_cS1i (M' := M_J6_bitCount_0f7a4) (d' := 1) dX0_findWeak_18 (Or.inl ml_X0_58) kb_J6_bitCount_0f7a4 (by first | decide | omega) (by simp [Value.category]) ⟨by decide, by decide⟩ ?_
      refine sp_bitCount ⟨_, rfl, ?_⟩
      rw [bcI_pop s (by omega)]
      have hpl := pop_le s
      by_cases hpk : pop s = k
      · refine V_iload_n dX0_findWeak_21 rfl rfl ?_
        refine V_icmp_ne_f (tgt := 54) dX0_findWeak_22 (by decide) (by rw [hpk]) ?_
        refine V_aload_n dX0_findWeak_25 rfl rfl (V_aload_n dX0_findWeak_26 rfl rfl (V_iload_n dX0_findWeak_27 rfl rfl ?_))
        refine V_cV2i (M' := M_X0_isMet) (d' := 13) dX0_findWeak_28 (Or.inl ml_X0_63) kb_X0_isMet (by first | assumption | exact ⟨by decide, rfl⟩) (by first | decide | omega) (by simp [Value.category]) ⟨by decide, by decide⟩ ?_
        refine sp_isMet (by omega) he hB hX1 hS1 g2 hs (fun I2 c1 m1 m2 => ⟨_, rfl, ?_⟩)
        have m12 : ∀ x y, x ≠ 48 → x ≠ 49 → x ≠ 50 → x ≠ 51 → x ≠ 52 → I2 x y = I x y := fun x y h1 h2 h3 h4 h5 => by rw [m1 x y h2 h3 h4]; exact g1 x y h1 h2 h3 h4 h5
        have m48 : I2 48 3 = nI (fb_ct (wk K k) s) := by rw [m1 _ _ (by omega) (by omega) (by omega)]; exact g3
        have mW : WKS I2 K k s := fun t ht hw => by rw [m1 _ _ (by omega) (by omega) (by omega)]; exact g4 t ht hw
        cases hm : metB K s 0
        · have hw : wk K k s = true := by unfold wk; simp [hpk, hm]
          have hlt : fb_ct (wk K k) s < 45 := by
            have := wk_ct K (k := k) (by omega) (n := s + 1) (by omega)
            rw [fb_ct_succ, hw] at this
            simp at this
            omega
          refine V_if_ne_f (tgt := 54) dX0_findWeak_31 (by decide) (rfl) ?_
          refine V_aload_n dX0_findWeak_34 rfl rfl ?_
          refine V_getR dX0_findWeak_35 fl_X0_22 (by first | assumption | exact ⟨by decide, rfl⟩) (by first | assumption | rfl) ?_
          refine V_aload_n dX0_findWeak_38 rfl rfl ?_
          refine V_getI dX0_findWeak_39 fl_X0_52 (by first | assumption | exact ⟨by decide, rfl⟩) ?_
          refine V_iload_n dX0_findWeak_42 rfl rfl ?_
          refine V_ias dX0_findWeak_43 (by first | assumption | exact ⟨by decide, rfl⟩) (show ix _ (fb_ct (wk K k) s) 45 from ⟨m48, hlt⟩) ?_
          refine V_aload_n dX0_findWeak_44 rfl rfl (V_dup dX0_findWeak_45 rfl ?_)
          refine V_getI dX0_findWeak_46 fl_X0_52 (by first | assumption | exact ⟨by decide, rfl⟩) ?_
          refine V_iconst (v := 1) dX0_findWeak_49 (by decide) (V_iadd dX0_findWeak_50 ?_)
          refine V_putI dX0_findWeak_51 fl_X0_52 (by first | assumption | exact ⟨by decide, rfl⟩) ?_
          refine V_iinc_3 (w := 1) dX0_findWeak_54 (by decide) (by decide) rfl (V_goto (tgt := 7) dX0_findWeak_57 (by decide) ?_)
          rw [nI_1, u2n (by omega), m48, nI_1]
          refine ih (by omega) _ c1 (fun x y h1 h2 h3 h4 h5 => by rw [u2n (by omega), u2n (by omega)]; exact m12 x y h1 h2 h3 h4 h5) (m2.of (fun b => by rw [u2n (by omega), u2n (by omega)])) (by rw [u2e, fb_ct_succ, hw]; rfl) (fun t ht hwt => ?_)
          rw [u2n (by omega)]
          by_cases hts : t = s
          · subst hts; rw [u2e]
          · rw [u2n (by
              refine Or.inr (fun z => hts (fb_ct_kth_one hwt hw z))), mW t (by omega) hwt]
        · have hw : wk K k s = false := by unfold wk; simp [hm]
          refine V_if_ne_t (tgt := 54) dX0_findWeak_31 (by decide) (by decide) ?_
          refine V_iinc_3 (w := 1) dX0_findWeak_54 (by decide) (by decide) rfl (V_goto (tgt := 7) dX0_findWeak_57 (by decide) ?_)
          rw [nI_1]
          refine ih (by omega) I2 c1 m12 m2 (by rw [m48, fb_ct_succ, hw]; rfl) (fun t ht hwt => ?_)
          refine mW t ?_ hwt
          by_cases hts : t = s
          · subst hts; rw [hw] at hwt; cases hwt
          · omega
      · have hw : wk K k s = false := by unfold wk; simp [hpk]
        refine V_iload_n dX0_findWeak_21 rfl rfl ?_
        refine V_icmp_ne_t (tgt := 54) dX0_findWeak_22 (by decide) (by exact fun z => hpk ((nI_eq (by omega) (by omega)).mp z)) ?_
        refine V_iinc_3 (w := 1) dX0_findWeak_54 (by decide) (by decide) rfl (V_goto (tgt := 7) dX0_findWeak_57 (by decide) ?_)
        rw [nI_1]
        refine ih (by omega) I1 b1 g1 g2 (by rw [g3, fb_ct_succ, hw]; rfl) (fun t ht hwt => ?_)
        refine g4 t ?_ hwt
        by_cases hts : t = s
        · subst hts; rw [hw] at hwt; cases hwt
        · omega
  have h0 : wk K k 0 = false := by
    have : pop 0 = 0 := by decide
    unfold wk; rw [this]; simp; omega
  refine key 1 (Nat.one_le_two_pow) (Nat.le_refl _) _ a1 (fun x y h1 h2 h3 h4 h5 => by rw [u2n (by omega)]) (hN.of (fun b => by rw [u2n (by omega)])) (by rw [u2e, fb_ct_succ, h0]; rfl) (fun t ht hwt => ?_)
  rw [show t = 0 by omega, h0] at hwt
  cases hwt
end
