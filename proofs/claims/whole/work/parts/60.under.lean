/-! Understudies: the list of covers, whether one helps -/
/-- the w-th of those below n for which p holds -/
def nthf (p : Nat → Bool) : Nat → Nat → Nat
  | 0, _ => 0
  | n + 1, w => if p n = true ∧ fb_ct p n = w then n else nthf p n w
theorem nthf_at {p : Nat → Bool} {s : Nat} (hp : p s = true) : ∀ {n : Nat}, s < n → nthf p n (fb_ct p s) = s
  | 0, h => absurd h (by omega)
  | n + 1, h => by
    unfold nthf
    by_cases e : n = s
    · subst e; rw [if_pos ⟨hp, rfl⟩]
    · rw [if_neg (fun q => e (fb_ct_kth_one q.1 hp q.2))]
      exact nthf_at hp (by omega)
theorem nthf_ok {p : Nat → Bool} {n w : Nat} (h : w < fb_ct p n) : nthf p n w < n ∧ p (nthf p n w) = true ∧ fb_ct p (nthf p n w) = w := by
  obtain ⟨i, h1, h2, h3⟩ := fb_ct_kth h
  subst h3
  rw [nthf_at h2 h1]
  exact ⟨h1, h2, rfl⟩
theorem nthf_ct {p q : Nat → Bool} : ∀ n, fb_ct (fun w => q (nthf p n w)) (fb_ct p n) = fb_ct (fun s => p s && q s) n
  | 0 => rfl
  | n + 1 => by
    have ih := nthf_ct (p := p) (q := q) n
    have e : fb_ct (fun w => q (nthf p (n + 1) w)) (fb_ct p n) = fb_ct (fun w => q (nthf p n w)) (fb_ct p n) := fb_ct_cong (fun w hw => by
      have : nthf p (n + 1) w = nthf p n w := by
        conv => lhs; unfold nthf
        rw [if_neg (fun z => by omega)]
      show q (nthf p (n + 1) w) = q (nthf p n w)
      rw [this])
    rw [fb_ct_succ (fun s => p s && q s), ← ih, ← e, fb_ct_succ p]
    cases hp : p n
    · simp
    · have e2 : nthf p (n + 1) (fb_ct p n) = n := nthf_at hp (by omega)
      simp [fb_ct_succ, e2]
def cvb (K : KT) (t : Nat) : Bool := decide (t % 8 < K 0 1) && (skl K (t / 8) (t % 8) && !may K (t / 8) (t % 8))
def ncv (K : KT) : Nat := fb_ct (cvb K) (8 * K 0 0)
def cvn (K : KT) (c : Nat) : Nat := nthf (cvb K) (8 * K 0 0) c
def CVS (I : TI) (K : KT) (n : Nat) : Prop := ∀ t, t < n → cvb K t = true → I 56 (fb_ct (cvb K) t) = nI (t / 8) ∧ I 57 (fb_ct (cvb K) t) = nI (t % 8)
theorem ncv_le {K : KT} (hB : KB K) : ncv K ≤ 80 := Nat.le_trans (fb_ct_le _ _) (by have := hB.1.1; omega)
theorem cvn_ok {K : KT} {c : Nat} (h : c < ncv K) : cvn K c < 8 * K 0 0 ∧ cvb K (cvn K c) = true ∧ fb_ct (cvb K) (cvn K c) = c := nthf_ok h
theorem cvn_in {K : KT} {c : Nat} (h : c < ncv K) : cvn K c / 8 < K 0 0 ∧ cvn K c % 8 < K 0 1 := by
  obtain ⟨h1, h2, _⟩ := cvn_ok h
  unfold cvb at h2
  simp at h2
  exact ⟨by omega, h2.1⟩
theorem CVS.at {I : TI} {K : KT} (h : CVS I K (8 * K 0 0)) {c : Nat} (hc : c < ncv K) : I 56 c = nI (cvn K c / 8) ∧ I 57 c = nI (cvn K c % 8) := by
  obtain ⟨h1, h2, h3⟩ := cvn_ok hc
  have := h (cvn K c) h1 h2
  rw [h3] at this
  exact this
theorem cvb_row (K : KT) (hQ : K 0 1 ≤ 8) (p : Nat) : fb_ct (cvb K) (8 * p + K 0 1) = fb_ct (cvb K) (8 * (p + 1)) := by
  rw [show 8 * (p + 1) = (8 * p + K 0 1) + (8 - K 0 1) by omega, fb_ct_split (cvb K) (8 * p + K 0 1)]
  have : fb_ct (fun k => cvb K (8 * p + K 0 1 + k)) (8 - K 0 1) = 0 := fb_ct_zero.mpr (fun k hk => by
    unfold cvb
    rw [show (8 * p + K 0 1 + k) % 8 = K 0 1 + k by omega, decide_eq_false (by omega)]
    rfl)
  omega
noncomputable def hlp (K : KT) (off t : Nat) : Bool := !off.testBit (t / 8) && exB K (andn (opn0 (K 0 1) 0) (2 ^ (t % 8))) (lst2 (clf K) (lft0 K off) (t % 8) (t / 8))
noncomputable def hlp2 (K : KT) (off t u : Nat) : Bool := !off.testBit (t / 8) && (!off.testBit (u / 8) && (decide (t % 8 ≠ u % 8) && (!(decide (t / 8 = u / 8) && clf K (t % 8) (u % 8)) && exB K (andn (andn (opn0 (K 0 1) 0) (2 ^ (t % 8))) (2 ^ (u % 8))) (lst2 (clf K) (lst2 (clf K) (lft0 K off) (t % 8) (t / 8)) (u % 8) (u / 8)))))
theorem lst2_lt {cl : Nat → Nat → Bool} {left : Nat → Nat} {i p n : Nat} (h : ∀ j, left j < 2 ^ n) (j : Nat) : lst2 cl left i p j < 2 ^ n := by
  unfold lst2
  split
  · exact andn_lt (h j)
  · exact h j
theorem shl1L : ∀ w, w < 63 → (1 : Int64) <<< ((nI w).toInt64 &&& 63) = lN (2 ^ w) := by decide +kernel
theorem mk_tL {f : Nat → Bool} {w : Nat} (hw : w < 63) (h : f w = true) : lN (mk f w) ||| (1 : Int64) <<< ((nI w).toInt64 &&& 63) = lN (mk f (w + 1)) := by
  rw [shl1L w hw, fb_orL]
  congr 1
  refine tb_ext (fun i => ?_)
  rw [Nat.testBit_or, mk_tb, mk_tb, pow_tb]
  by_cases hi : w = i
  · subst hi; simp [h]
  · have : (i < w + 1) ↔ i < w := by omega
    simp [hi, this]
theorem mk_fL {f : Nat → Bool} {w : Nat} (h : f w = false) : mk f w = mk f (w + 1) := by
  refine tb_ext (fun i => ?_)
  rw [mk_tb, mk_tb]
  by_cases hi : w = i
  · subst hi; simp [h]
  · have : (i < w + 1) ↔ i < w := by omega
    simp [this]
section
variable {E : En} {I : TI} {J : TJ} {co dr : Nat} {cc a1 a2 : Option Nat} {Post : PT} {e : Nat} {K : KT} {off : Nat}
theorem sp_listCovers {d : Nat} (hd : 3 ≤ d) (he : e = 4 ∨ e = 18) (hB : KB K) (hX : CoX I e K) (hS : SX I e K) (Kk : ∀ I', (∀ x y, (x ≠ 53 ∨ y ≠ 3) → x ≠ 56 → x ≠ 57 → I' x y = I x y) → I' 53 3 = nI (ncv K) → CVS I' K (8 * K 0 0) → Post none NC I' J (RR co dr cc a1 a2)) : Cal E d M_X9_listCovers [.ref 53, .ref e] NC I J (RR co dr cc a1 a2) Post := by
  have hP := hB.1.1
  have hQ := hB.1.2.1
  obtain ⟨_, _, _, _, _, _, _, _, _, _, _, _, _, _, _, _, _, _, _, _, _, _, _⟩ := f_co (co := co) (dr := dr) (cc := cc) (a1 := a1) (a2 := a2) (he)
  refine Cal_of kn_X9_listCovers rfl (Nat.le_of_ble_eq_true rfl) ?_
  refine V_aload_n dX9_listCovers_0 rfl rfl (V_iconst (v := 0) dX9_listCovers_1 (by decide) ?_)
  refine V_putI dX9_listCovers_2 fl_X9_51 (by first | assumption | exact ⟨by decide, rfl⟩) ?_
  refine V_iconst (v := 0) dX9_listCovers_5 (by decide) (V_istore_2 dX9_listCovers_6 (by decide) rfl ?_)
  have key : ∀ p, p ≤ K 0 0 → ∀ I1 (o3 : Option Value), (∀ x y, (x ≠ 53 ∨ y ≠ 3) → x ≠ 56 → x ≠ 57 → I1 x y = I x y) → I1 53 3 = nI (fb_ct (cvb K) (8 * p)) → CVS I1 K (8 * p) → V E d M_X9_listCovers Post 7 [some (.ref 53), some (.ref e), some (.int (nI p)), o3] [] NC 0 0 I1 J (RR co dr cc a1 a2) := by
    refine loop_up _ ?_ ?_
    · intro I1 o3 g1 g2 g3
      have hX1 : CoX I1 e K := hX.of (fun x y q1 q2 => g1 x y (by omega) (by omega) (by omega))
      refine V_iload_n dX9_listCovers_7 rfl rfl (V_aload_n dX9_listCovers_8 rfl rfl ?_)
      refine V_getI dX9_listCovers_9 fl_X9_64 (by first | assumption | exact ⟨by decide, rfl⟩) ?_
      refine V_icmp_ge_t (tgt := 85) dX9_listCovers_12 (by decide) (by rw [hX1.1.1]; exact nI_le (Nat.le_refl _) (by omega)) ?_
      refine V_return dX9_listCovers_85 rfl rfl (by decide) (by decide) ?_
      exact Kk I1 g1 g2 g3
    · intro p hp ih I1 o3 g1 g2 g3
      have hX1 : CoX I1 e K := hX.of (fun x y q1 q2 => g1 x y (by omega) (by omega) (by omega))
      refine V_iload_n dX9_listCovers_7 rfl rfl (V_aload_n dX9_listCovers_8 rfl rfl ?_)
      refine V_getI dX9_listCovers_9 fl_X9_64 (by first | assumption | exact ⟨by decide, rfl⟩) ?_
      refine V_icmp_ge_f (tgt := 85) dX9_listCovers_12 (by decide) (by rw [hX1.1.1]; exact nI_ge hp (by omega)) ?_
      refine V_iconst (v := 0) dX9_listCovers_15 (by decide) (V_istore_3 dX9_listCovers_16 (by decide) rfl ?_)
      have key2 : ∀ i, i ≤ K 0 1 → ∀ I2, (∀ x y, (x ≠ 53 ∨ y ≠ 3) → x ≠ 56 → x ≠ 57 → I2 x y = I x y) → I2 53 3 = nI (fb_ct (cvb K) (8 * p + i)) → CVS I2 K (8 * p + i) → V E d M_X9_listCovers Post 17 [some (.ref 53), some (.ref e), some (.int (nI p)), some (.int (nI i))] [] NC 0 0 I2 J (RR co dr cc a1 a2) := by
        refine loop_up _ ?_ ?_
        · intro I2 m1 m2 m3
          have hX2 : CoX I2 e K := hX.of (fun x y q1 q2 => m1 x y (by omega) (by omega) (by omega))
          refine V_iload_n dX9_listCovers_17 rfl rfl (V_aload_n dX9_listCovers_18 rfl rfl ?_)
          refine V_getI dX9_listCovers_19 fl_X9_69 (by first | assumption | exact ⟨by decide, rfl⟩) ?_
          refine V_icmp_ge_t (tgt := 79) dX9_listCovers_22 (by decide) (by rw [hX2.1.2.1]; exact nI_le (Nat.le_refl _) (by omega)) ?_
          refine V_iinc_2 (w := 1) dX9_listCovers_79 (by decide) (by decide) rfl (V_goto (tgt := 7) dX9_listCovers_82 (by decide) ?_)
          rw [nI_1]
          refine ih I2 _ m1 (by rw [m2, cvb_row K hQ]) (fun t ht hc => ?_)
          refine m3 t ?_ hc
          unfold cvb at hc
          simp at hc
          omega
        · intro i hi ih2 I2 m1 m2 m3
          have hX2 : CoX I2 e K := hX.of (fun x y q1 q2 => m1 x y (by omega) (by omega) (by omega))
          have hS2 : SX I2 e K := hS.of (fun b => ⟨m1 _ b (by omega) (by omega) (by omega), m1 _ b (by omega) (by omega) (by omega)⟩)
          have hdm : (8 * p + i) / 8 = p ∧ (8 * p + i) % 8 = i := by omega
          have no : cvb K (8 * p + i) = false → V E d M_X9_listCovers Post 73 [some (.ref 53), some (.ref e), some (.int (nI p)), some (.int (nI i))] [] NC 0 0 I2 J (RR co dr cc a1 a2) := by
            intro hc
            refine V_iinc_3 (w := 1) dX9_listCovers_73 (by decide) (by decide) rfl (V_goto (tgt := 17) dX9_listCovers_76 (by decide) ?_)
            rw [nI_1]
            refine ih2 I2 m1 (by rw [m2, show 8 * p + (i + 1) = 8 * p + i + 1 by omega, fb_ct_succ, hc]; rfl) (fun t ht hct => ?_)
            refine m3 t ?_ hct
            by_cases hts : t = 8 * p + i
            · subst hts; rw [hc] at hct; cases hct
            · omega
          refine V_iload_n dX9_listCovers_17 rfl rfl (V_aload_n dX9_listCovers_18 rfl rfl ?_)
          refine V_getI dX9_listCovers_19 fl_X9_69 (by first | assumption | exact ⟨by decide, rfl⟩) ?_
          refine V_icmp_ge_f (tgt := 79) dX9_listCovers_22 (by decide) (by rw [hX2.1.2.1]; exact nI_ge hi (by omega)) ?_
          refine V_aload_n dX9_listCovers_25 rfl rfl (V_iload_n dX9_listCovers_26 rfl rfl (V_iload_n dX9_listCovers_27 rfl rfl ?_))
          refine V_cV2i (M' := M_X3_isSkilled) (d' := 1) dX9_listCovers_28 (Or.inl ml_X9_72) kb_X3_isSkilled (by first | assumption | exact ⟨by decide, rfl⟩) (by first | decide | omega) (by simp [Value.category]) ⟨by decide, by decide⟩ ?_
          refine sp_isSkilled he hB hX2 hp hi ⟨_, rfl, ?_⟩
          cases hsk : skl K p i
          · refine V_if_eq_t (tgt := 73) dX9_listCovers_31 (by decide) (rfl) ?_
            refine no ?_
            unfold cvb; rw [hdm.1, hdm.2, hsk]; simp
          · refine V_if_eq_f (tgt := 73) dX9_listCovers_31 (by decide) (by decide) ?_
            refine V_aload_n dX9_listCovers_34 rfl rfl (V_iload_n dX9_listCovers_35 rfl rfl (V_iload_n dX9_listCovers_36 rfl rfl ?_))
            refine V_cV2i (M' := M_X3_mayPlay) (d' := 2) dX9_listCovers_37 (Or.inl ml_X9_75) kb_X3_mayPlay (by first | assumption | exact ⟨by decide, rfl⟩) (by first | decide | omega) (by simp [Value.category]) ⟨by decide, by decide⟩ ?_
            refine sp_mayPlay he hB hS2 hp hi ⟨_, rfl, ?_⟩
            cases hmy : may K p i
            · have hcv : cvb K (8 * p + i) = true := by unfold cvb; rw [hdm.1, hdm.2, hsk, hmy]; simp [hi]
              have hct : fb_ct (cvb K) (8 * p + i) < 80 := Nat.lt_of_le_of_lt (fb_ct_le _ _) (by omega)
              refine V_if_ne_f (tgt := 73) dX9_listCovers_40 (by decide) (rfl) ?_
              refine V_aload_n dX9_listCovers_43 rfl rfl ?_
              refine V_getR dX9_listCovers_44 fl_X9_18 (by first | assumption | exact ⟨by decide, rfl⟩) (by first | assumption | rfl) ?_
              refine V_aload_n dX9_listCovers_47 rfl rfl ?_
              refine V_getI dX9_listCovers_48 fl_X9_51 (by first | assumption | exact ⟨by decide, rfl⟩) ?_
              refine V_iload_n dX9_listCovers_51 rfl rfl ?_
              refine V_ias dX9_listCovers_52 (by first | assumption | exact ⟨by decide, rfl⟩) (show ix _ (fb_ct (cvb K) (8 * p + i)) 80 from ⟨m2, hct⟩) ?_
              refine V_aload_n dX9_listCovers_53 rfl rfl ?_
              refine V_getR dX9_listCovers_54 fl_X9_22 (by first | assumption | exact ⟨by decide, rfl⟩) (by first | assumption | rfl) ?_
              refine V_aload_n dX9_listCovers_57 rfl rfl ?_
              refine V_getI dX9_listCovers_58 fl_X9_51 (by first | assumption | exact ⟨by decide, rfl⟩) ?_
              refine V_iload_n dX9_listCovers_61 rfl rfl ?_
              refine V_ias dX9_listCovers_62 (by first | assumption | exact ⟨by decide, rfl⟩) (show ix _ (fb_ct (cvb K) (8 * p + i)) 80 from ⟨by rw [u2n (by omega)]; exact m2, hct⟩) ?_
              refine V_aload_n dX9_listCovers_63 rfl rfl (V_dup dX9_listCovers_64 rfl ?_)
              refine V_getI dX9_listCovers_65 fl_X9_51 (by first | assumption | exact ⟨by decide, rfl⟩) ?_
              refine V_iconst (v := 1) dX9_listCovers_68 (by decide) (V_iadd dX9_listCovers_69 ?_)
              refine V_putI dX9_listCovers_70 fl_X9_51 (by first | assumption | exact ⟨by decide, rfl⟩) ?_
              refine V_iinc_3 (w := 1) dX9_listCovers_73 (by decide) (by decide) rfl (V_goto (tgt := 17) dX9_listCovers_76 (by decide) ?_)
              rw [nI_1, u2n (by omega), u2n (by omega), m2, nI_1]
              refine ih2 _ (fun x y h1 h2 h3 => by rw [u2n (by omega), u2n (by omega), u2n (by omega)]; exact m1 x y h1 h2 h3) (by rw [u2e, show 8 * p + (i + 1) = 8 * p + i + 1 by omega, fb_ct_succ, hcv]; rfl) (fun t ht hct => ?_)
              by_cases hts : t = 8 * p + i
              · subst hts
                refine ⟨?_, ?_⟩
                · rw [u2n (by omega), u2n (by omega), u2e, hdm.1]
                · rw [u2n (by omega), u2e, hdm.2]
              · have hne : fb_ct (cvb K) t ≠ fb_ct (cvb K) (8 * p + i) := fun z => hts (fb_ct_kth_one hct hcv z)
                obtain ⟨r1, r2⟩ := m3 t (by omega) hct
                refine ⟨?_, ?_⟩
                · rw [u2n (by omega), u2n (by omega), u2n (Or.inr hne)]; exact r1
                · rw [u2n (by omega), u2n (Or.inr hne), u2n (by omega)]; exact r2
            · refine V_if_ne_t (tgt := 73) dX9_listCovers_40 (by decide) (by decide) ?_
              refine no ?_
              unfold cvb; rw [hdm.1, hdm.2, hmy]; simp
      exact key2 0 (Nat.zero_le _) I1 g1 (by rw [g2]; rfl) g3
  refine key 0 (Nat.zero_le _) _ _ (fun x y h1 h2 h3 => by rw [u2n h1]) (by rw [u2e]; rfl) (fun t ht => absurd ht (by omega))
theorem sp_helps {d c : Nat} (hd : 13 ≤ d) (he : e = 4 ∨ e = 18) (hB : KB K) (hX : CoX I e K) (hS : SX I e K) (hC : CVS I K (8 * K 0 0)) (hc : c < ncv K) (ho : off < 2 ^ 31) (Kk : ∀ I' b2, (∀ x y, x ≠ 54 → x ≠ 55 → I' x y = I x y) → Post (some (.int (b2i (hlp K off (cvn K c))))) NC I' J (RR co dr cc a1 b2)) : Cal E d M_X9_helps [.ref 53, .ref e, .int (nI off), .int (nI c)] NC I J (RR co dr cc a1 a2) Post := by
  have hP := hB.1.1
  have hQ := hB.1.2.1
  have hn := ncv_le hB
  obtain ⟨c1, c2⟩ := hC.at hc
  obtain ⟨l1, l2⟩ := cvn_in hc
  refine Cal_of kn_X9_helps rfl (Nat.le_of_ble_eq_true rfl) ?_
  refine V_iload_n dX9_helps_0 rfl rfl (V_aload_n dX9_helps_1 rfl rfl ?_)
  refine V_getR dX9_helps_2 fl_X9_18 (by first | assumption | exact ⟨by decide, rfl⟩) (by first | assumption | rfl) ?_
  refine V_iload_n dX9_helps_5 rfl rfl ?_
  refine V_ial dX9_helps_6 (by first | assumption | exact ⟨by decide, rfl⟩) (show ix _ c 80 from ⟨rfl, by omega⟩) ?_
  refine V_cS2i (M' := M_X10_has) (d' := 1) dX9_helps_7 (Or.inr ⟨_, ml_X9_47⟩) kb_X10_has (by first | decide | omega) (by simp [Value.category]) ⟨by decide, by decide⟩ ?_
  rw [c1]
  refine sp_has ho (by omega) ⟨_, rfl, ?_⟩
  cases hv : off.testBit (cvn K c / 8)
  · refine V_if_eq_t (tgt := 15) dX9_helps_10 (by decide) (rfl) ?_
    refine V_aload_n dX9_helps_15 rfl rfl ?_
    refine V_getR dX9_helps_16 fl_X9_12 (by first | assumption | exact ⟨by decide, rfl⟩) (by first | assumption | rfl) ?_
    refine V_aload_n dX9_helps_19 rfl rfl (V_iload_n dX9_helps_20 rfl rfl (V_iconst (v := 0) dX9_helps_21 (by decide) ?_))
    refine V_cV3v (M' := M_X1_begin) (d' := 1) dX9_helps_22 (Or.inl ml_X9_78) kb_X1_begin (by first | assumption | exact ⟨by decide, rfl⟩) (by first | decide | omega) (by simp [Value.category]) ⟨by decide, by decide⟩ ?_
    rw [show (0 : Int32) = nI 0 from rfl]
    refine sp_atBegin (Or.inr rfl) he hB hX hS (fun I1 g1 gA => ⟨rfl, ?_⟩)
    rw [at1_54, at2_54]
    have hX1 : CoX I1 e K := hX.of (fun x y q1 q2 => g1 x y (by omega) (by omega))
    have hS1 : SX I1 e K := hS.of (fun b => ⟨g1 _ b (by omega) (by omega), g1 _ b (by omega) (by omega)⟩)
    refine V_aload_n dX9_helps_25 rfl rfl ?_
    refine V_getR dX9_helps_26 fl_X9_12 (by first | assumption | exact ⟨by decide, rfl⟩) (by first | assumption | rfl) ?_
    refine V_aload_n dX9_helps_29 rfl rfl ?_
    refine V_getR dX9_helps_30 fl_X9_18 (by first | assumption | exact ⟨by decide, rfl⟩) (by first | assumption | rfl) ?_
    refine V_iload_n dX9_helps_33 rfl rfl ?_
    refine V_ial dX9_helps_34 (by first | assumption | exact ⟨by decide, rfl⟩) (show ix _ c 80 from ⟨rfl, by omega⟩) ?_
    refine V_aload_n dX9_helps_35 rfl rfl ?_
    refine V_getR dX9_helps_36 fl_X9_22 (by first | assumption | exact ⟨by decide, rfl⟩) (by first | assumption | rfl) ?_
    refine V_iload_n dX9_helps_39 rfl rfl ?_
    refine V_ial dX9_helps_40 (by first | assumption | exact ⟨by decide, rfl⟩) (show ix _ c 80 from ⟨rfl, by omega⟩) ?_
    refine V_cV2v (M' := M_X1_give) (d' := 2) dX9_helps_41 (Or.inl ml_X9_82) kb_X1_give (by first | assumption | exact ⟨by decide, rfl⟩) (by first | decide | omega) (by simp [Value.category]) ⟨by decide, by decide⟩ ?_
    rw [g1 56 _ (by omega) (by omega), g1 57 _ (by omega) (by omega), c1, c2]
    refine sp_give (by omega) (Or.inr rfl) he hB hX1 hS1 rfl gA (by omega) l2 (fun I2 g2 gB => ⟨rfl, ?_⟩)
    have hX2 : CoX I2 e K := hX1.of (fun x y q1 q2 => g2 x y (by omega) (by omega))
    have hS2 : SX I2 e K := hS1.of (fun b => ⟨g2 _ b (by omega) (by omega), g2 _ b (by omega) (by omega)⟩)
    refine V_aload_n dX9_helps_44 rfl rfl ?_
    refine V_getR dX9_helps_45 fl_X9_12 (by first | assumption | exact ⟨by decide, rfl⟩) (by first | assumption | rfl) ?_
    refine V_cV0i (M' := M_X1_succeeds) (d' := 12) dX9_helps_48 (Or.inl ml_X9_86) kb_X1_succeeds (by first | assumption | exact ⟨by decide, rfl⟩) (by first | decide | omega) (by simp [Value.category]) ⟨by decide, by decide⟩ ?_
    refine sp_succeeds (by omega) (Or.inr rfl) he hB hX2 hS2 rfl gB (andn_lt (opn0_lt _ _)) (fun j _ => lst2_lt (lft0_lt K off) j) (fun I3 g3 => ⟨_, rfl, ?_⟩)
    refine V_ireturn dX9_helps_51 rfl rfl (b2i_nar _) (by decide) (by decide) ?_
    have := Kk I3 (some e) (fun x y h1 h2 => by rw [g3 x y h2, g2 x y h1 h2]; exact g1 x y h1 h2)
    rw [hlp, hv] at this
    simpa using this
  · refine V_if_eq_f (tgt := 15) dX9_helps_10 (by decide) (by decide) ?_
    refine V_iconst (v := 0) dX9_helps_13 (by decide) ?_
    refine V_ireturn dX9_helps_14 rfl rfl rfl (by decide) (by decide) ?_
    have := Kk I a2 (fun x y h1 h2 => rfl)
    rw [hlp, hv] at this
    exact this
theorem sp_helpTogether {d c c' : Nat} (hd : 13 ≤ d) (he : e = 4 ∨ e = 18) (hB : KB K) (hX : CoX I e K) (hS : SX I e K) (hC : CVS I K (8 * K 0 0)) (hc : c < ncv K) (hc' : c' < ncv K) (ho : off < 2 ^ 31) (Kk : ∀ I' b2, (∀ x y, x ≠ 54 → x ≠ 55 → I' x y = I x y) → Post (some (.int (b2i (hlp2 K off (cvn K c) (cvn K c'))))) NC I' J (RR co dr cc a1 b2)) : Cal E d M_X9_helpTogether [.ref 53, .ref e, .int (nI off), .int (nI c), .int (nI c')] NC I J (RR co dr cc a1 a2) Post := by
  have hP := hB.1.1
  have hQ := hB.1.2.1
  have hn := ncv_le hB
  obtain ⟨c1, c2⟩ := hC.at hc
  obtain ⟨l1, l2⟩ := cvn_in hc
  obtain ⟨c3, c4⟩ := hC.at hc'
  obtain ⟨l3, l4⟩ := cvn_in hc'
  have hcm31 : clashM K (cvn K c % 8) < 2 ^ 31 := lt31 (clashM_lt K hB _) (by decide)
  obtain ⟨_, _, _, _, _, _, _, _, _, _, _, _, _, _, _, _, _, _, _, _, _, _, _⟩ := f_co (co := co) (dr := dr) (cc := cc) (a1 := a1) (a2 := a2) (he)
  refine Cal_of kn_X9_helpTogether rfl (Nat.le_of_ble_eq_true rfl) ?_
  refine V_aload_n dX9_helpTogether_0 rfl rfl ?_
  refine V_getR dX9_helpTogether_1 fl_X9_18 (by first | assumption | exact ⟨by decide, rfl⟩) (by first | assumption | rfl) ?_
  refine V_iload_n dX9_helpTogether_4 rfl rfl ?_
  refine V_ial dX9_helpTogether_5 (by first | assumption | exact ⟨by decide, rfl⟩) (show ix _ c 80 from ⟨rfl, by omega⟩) ?_
  refine V_istore_5 dX9_helpTogether_6 (by decide) rfl (V_aload_n dX9_helpTogether_8 rfl rfl ?_)
  refine V_getR dX9_helpTogether_9 fl_X9_18 (by first | assumption | exact ⟨by decide, rfl⟩) (by first | assumption | rfl) ?_
  refine V_iload dX9_helpTogether_12 rfl ?_
  refine V_ial dX9_helpTogether_14 (by first | assumption | exact ⟨by decide, rfl⟩) (show ix _ c' 80 from ⟨rfl, by omega⟩) ?_
  refine V_istore_6 dX9_helpTogether_15 (by decide) rfl (V_aload_n dX9_helpTogether_17 rfl rfl ?_)
  refine V_getR dX9_helpTogether_18 fl_X9_22 (by first | assumption | exact ⟨by decide, rfl⟩) (by first | assumption | rfl) ?_
  refine V_iload_n dX9_helpTogether_21 rfl rfl ?_
  refine V_ial dX9_helpTogether_22 (by first | assumption | exact ⟨by decide, rfl⟩) (show ix _ c 80 from ⟨rfl, by omega⟩) ?_
  refine V_istore_7 dX9_helpTogether_23 (by decide) rfl (V_aload_n dX9_helpTogether_25 rfl rfl ?_)
  refine V_getR dX9_helpTogether_26 fl_X9_22 (by first | assumption | exact ⟨by decide, rfl⟩) (by first | assumption | rfl) ?_
  refine V_iload dX9_helpTogether_29 rfl ?_
  refine V_ial dX9_helpTogether_31 (by first | assumption | exact ⟨by decide, rfl⟩) (show ix _ c' 80 from ⟨rfl, by omega⟩) ?_
  refine V_istore_8 dX9_helpTogether_32 (by decide) rfl (V_iload_n dX9_helpTogether_34 rfl rfl (V_iload dX9_helpTogether_35 rfl ?_))
  refine V_cS2i (M' := M_X10_has) (d' := 1) dX9_helpTogether_37 (Or.inr ⟨_, ml_X9_47⟩) kb_X10_has (by first | decide | omega) (by simp [Value.category]) ⟨by decide, by decide⟩ ?_
  rw [c1, c2, c3, c4]
  have bad : hlp2 K off (cvn K c) (cvn K c') = false → V E d M_X9_helpTogether Post 81 [some (.ref 53), some (.ref e), some (.int (nI off)), some (.int (nI c)), some (.int (nI c')), some (.int (nI (cvn K c / 8))), some (.int (nI (cvn K c' / 8))), some (.int (nI (cvn K c % 8))), some (.int (nI (cvn K c' % 8)))] [] NC 0 0 I J (RR co dr cc a1 a2) := by
    intro h
    have := Kk I a2 (fun x y h1 h2 => rfl)
    rw [h] at this
    refine V_iconst (v := 0) dX9_helpTogether_81 (by decide) ?_
    refine V_ireturn dX9_helpTogether_82 rfl rfl rfl (by decide) (by decide) ?_
    exact this
  have good : off.testBit (cvn K c / 8) = false → off.testBit (cvn K c' / 8) = false → cvn K c % 8 ≠ cvn K c' % 8 → ¬ (cvn K c / 8 = cvn K c' / 8 ∧ clf K (cvn K c % 8) (cvn K c' % 8) = true) → V E d M_X9_helpTogether Post 83 [some (.ref 53), some (.ref e), some (.int (nI off)), some (.int (nI c)), some (.int (nI c')), some (.int (nI (cvn K c / 8))), some (.int (nI (cvn K c' / 8))), some (.int (nI (cvn K c % 8))), some (.int (nI (cvn K c' % 8)))] [] NC 0 0 I J (RR co dr cc a1 a2) := by
    intro h1 h2 h3 h4
    refine V_aload_n dX9_helpTogether_83 rfl rfl ?_
    refine V_getR dX9_helpTogether_84 fl_X9_12 (by first | assumption | exact ⟨by decide, rfl⟩) (by first | assumption | rfl) ?_
    refine V_aload_n dX9_helpTogether_87 rfl rfl (V_iload_n dX9_helpTogether_88 rfl rfl (V_iconst (v := 0) dX9_helpTogether_89 (by decide) ?_))
    refine V_cV3v (M' := M_X1_begin) (d' := 1) dX9_helpTogether_90 (Or.inl ml_X9_78) kb_X1_begin (by first | assumption | exact ⟨by decide, rfl⟩) (by first | decide | omega) (by simp [Value.category]) ⟨by decide, by decide⟩ ?_
    rw [show (0 : Int32) = nI 0 from rfl]
    refine sp_atBegin (Or.inr rfl) he hB hX hS (fun I1 g1 gA => ⟨rfl, ?_⟩)
    rw [at1_54, at2_54]
    have hX1 : CoX I1 e K := hX.of (fun x y q1 q2 => g1 x y (by omega) (by omega))
    have hS1 : SX I1 e K := hS.of (fun b => ⟨g1 _ b (by omega) (by omega), g1 _ b (by omega) (by omega)⟩)
    refine V_aload_n dX9_helpTogether_93 rfl rfl ?_
    refine V_getR dX9_helpTogether_94 fl_X9_12 (by first | assumption | exact ⟨by decide, rfl⟩) (by first | assumption | rfl) ?_
    refine V_iload dX9_helpTogether_97 rfl (V_iload dX9_helpTogether_99 rfl ?_)
    refine V_cV2v (M' := M_X1_give) (d' := 2) dX9_helpTogether_101 (Or.inl ml_X9_82) kb_X1_give (by first | assumption | exact ⟨by decide, rfl⟩) (by first | decide | omega) (by simp [Value.category]) ⟨by decide, by decide⟩ ?_
    refine sp_give (by omega) (Or.inr rfl) he hB hX1 hS1 rfl gA (by omega) l2 (fun I2 g2 gB => ⟨rfl, ?_⟩)
    have hX2 : CoX I2 e K := hX1.of (fun x y q1 q2 => g2 x y (by omega) (by omega))
    have hS2 : SX I2 e K := hS1.of (fun b => ⟨g2 _ b (by omega) (by omega), g2 _ b (by omega) (by omega)⟩)
    refine V_aload_n dX9_helpTogether_104 rfl rfl ?_
    refine V_getR dX9_helpTogether_105 fl_X9_12 (by first | assumption | exact ⟨by decide, rfl⟩) (by first | assumption | rfl) ?_
    refine V_iload dX9_helpTogether_108 rfl (V_iload dX9_helpTogether_110 rfl ?_)
    refine V_cV2v (M' := M_X1_give) (d' := 2) dX9_helpTogether_112 (Or.inl ml_X9_82) kb_X1_give (by first | assumption | exact ⟨by decide, rfl⟩) (by first | decide | omega) (by simp [Value.category]) ⟨by decide, by decide⟩ ?_
    refine sp_give (by omega) (Or.inr rfl) he hB hX2 hS2 rfl gB (by omega) l4 (fun I3 g3 gC => ⟨rfl, ?_⟩)
    have hX3 : CoX I3 e K := hX2.of (fun x y q1 q2 => g3 x y (by omega) (by omega))
    have hS3 : SX I3 e K := hS2.of (fun b => ⟨g3 _ b (by omega) (by omega), g3 _ b (by omega) (by omega)⟩)
    refine V_aload_n dX9_helpTogether_115 rfl rfl ?_
    refine V_getR dX9_helpTogether_116 fl_X9_12 (by first | assumption | exact ⟨by decide, rfl⟩) (by first | assumption | rfl) ?_
    refine V_cV0i (M' := M_X1_succeeds) (d' := 12) dX9_helpTogether_119 (Or.inl ml_X9_86) kb_X1_succeeds (by first | assumption | exact ⟨by decide, rfl⟩) (by first | decide | omega) (by simp [Value.category]) ⟨by decide, by decide⟩ ?_
    refine sp_succeeds (by omega) (Or.inr rfl) he hB hX3 hS3 rfl gC (andn_lt (andn_lt (opn0_lt _ _))) (fun j _ => lst2_lt (lst2_lt (lft0_lt K off)) j) (fun I4 g4 => ⟨_, rfl, ?_⟩)
    refine V_ireturn dX9_helpTogether_122 rfl rfl (b2i_nar _) (by decide) (by decide) ?_
    have := Kk I4 (some e) (fun x y h1 h2 => by rw [g4 x y h2, g3 x y h1 h2, g2 x y h1 h2]; exact g1 x y h1 h2)
    have e2 : (decide (cvn K c / 8 = cvn K c' / 8) && clf K (cvn K c % 8) (cvn K c' % 8)) = false := by
      rw [Bool.eq_false_iff]
      intro z
      simp at z
      exact h4 z
    rw [hlp2, h1, h2, e2, decide_eq_true h3] at this
    exact this
  refine sp_has ho (by omega) ⟨_, rfl, ?_⟩
  cases hv : off.testBit (cvn K c / 8)
  · refine V_if_ne_f (tgt := 81) dX9_helpTogether_40 (by decide) (rfl) ?_
    refine V_iload_n dX9_helpTogether_43 rfl rfl (V_iload dX9_helpTogether_44 rfl ?_)
    refine V_cS2i (M' := M_X10_has) (d' := 1) dX9_helpTogether_46 (Or.inr ⟨_, ml_X9_47⟩) kb_X10_has (by first | decide | omega) (by simp [Value.category]) ⟨by decide, by decide⟩ ?_
    refine sp_has ho (by omega) ⟨_, rfl, ?_⟩
    cases hv2 : off.testBit (cvn K c' / 8)
    · by_cases hij : cvn K c % 8 = cvn K c' % 8
      · refine V_if_ne_f (tgt := 81) dX9_helpTogether_49 (by decide) (rfl) ?_
        refine V_iload dX9_helpTogether_52 rfl (V_iload dX9_helpTogether_54 rfl ?_)
        refine V_icmp_eq_t (tgt := 81) dX9_helpTogether_56 (by decide) (by rw [hij]) ?_
        refine bad ?_
        unfold hlp2; rw [decide_eq_false (fun z => z hij)]; simp
      · have hnij : nI (cvn K c % 8) ≠ nI (cvn K c' % 8) := fun z => hij ((nI_eq (by omega) (by omega)).mp z)
        by_cases hpq : cvn K c / 8 = cvn K c' / 8
        · refine V_if_ne_f (tgt := 81) dX9_helpTogether_49 (by decide) (rfl) ?_
          refine V_iload dX9_helpTogether_52 rfl (V_iload dX9_helpTogether_54 rfl ?_)
          refine V_icmp_eq_f (tgt := 81) dX9_helpTogether_56 (by decide) (hnij) ?_
          refine V_iload dX9_helpTogether_59 rfl (V_iload dX9_helpTogether_61 rfl ?_)
          refine V_icmp_ne_f (tgt := 83) dX9_helpTogether_63 (by decide) (by rw [hpq]) ?_
          refine V_aload_n dX9_helpTogether_66 rfl rfl ?_
          refine V_getR dX9_helpTogether_67 fl_X9_90 (by first | assumption | exact ⟨by decide, rfl⟩) (by first | assumption | rfl) ?_
          refine V_iload dX9_helpTogether_70 rfl ?_
          refine V_ial dX9_helpTogether_72 (by first | assumption | exact ⟨by decide, rfl⟩) (show ix _ (cvn K c % 8) 8 from ⟨rfl, by omega⟩) ?_
          refine V_iload dX9_helpTogether_73 rfl ?_
          refine V_cS2i (M' := M_X10_has) (d' := 1) dX9_helpTogether_75 (Or.inr ⟨_, ml_X9_47⟩) kb_X10_has (by first | decide | omega) (by simp [Value.category]) ⟨by decide, by decide⟩ ?_
          rw [(hS _ l2).2]
          refine sp_has hcm31 (by omega) ⟨_, rfl, ?_⟩
          rw [clashM_tb K l2]
          cases hcl : clf K (cvn K c % 8) (cvn K c' % 8)
          · refine V_if_eq_t (tgt := 83) dX9_helpTogether_78 (by decide) (rfl) ?_
            exact good hv hv2 hij (fun z => by rw [hcl] at z; exact absurd z.2 (by decide))
          · refine V_if_eq_f (tgt := 83) dX9_helpTogether_78 (by decide) (by decide) ?_
            refine bad ?_
            unfold hlp2; rw [hcl, decide_eq_true hpq]; simp
        · refine V_if_ne_f (tgt := 81) dX9_helpTogether_49 (by decide) (rfl) ?_
          refine V_iload dX9_helpTogether_52 rfl (V_iload dX9_helpTogether_54 rfl ?_)
          refine V_icmp_eq_f (tgt := 81) dX9_helpTogether_56 (by decide) (hnij) ?_
          refine V_iload dX9_helpTogether_59 rfl (V_iload dX9_helpTogether_61 rfl ?_)
          refine V_icmp_ne_t (tgt := 83) dX9_helpTogether_63 (by decide) (by exact fun z => hpq ((nI_eq (by omega) (by omega)).mp z)) ?_
          exact good hv hv2 hij (fun z => hpq z.1)
    · refine V_if_ne_t (tgt := 81) dX9_helpTogether_49 (by decide) (by decide) ?_
      refine bad ?_
      unfold hlp2; rw [hv2]; simp
  · refine V_if_ne_t (tgt := 81) dX9_helpTogether_40 (by decide) (by decide) ?_
    refine bad ?_
    unfold hlp2; rw [hv]; simp
end
