/-! Call of the reference: cold -/
def spl (K : KT) (s a : Nat) : Nat → Nat → Nat
  | 0 => fun c => if c = 0 then a else 0
  | q + 1 => if s.testBit q = true then spl K s a q else fun c => if c < 2 ^ q then sty (wl K s q) (spl K s a q c) else if c < 2 ^ (q + 1) then spl K s a q (c - 2 ^ q) - sty (wl K s q) (spl K s a q (c - 2 ^ q)) else spl K s a q c
theorem wl_le (K : KT) (s p : Nat) : wl K s p ≤ 1000000 := wlr_le K s p _
theorem spl_le (K : KT) (s a : Nat) : ∀ q c, spl K s a q c ≤ a
  | 0, c => by unfold spl; split <;> omega
  | q + 1, c => by
    unfold spl
    split
    · exact spl_le K s a q c
    · show (if c < 2 ^ q then _ else _) ≤ a
      split
      · exact Nat.le_trans (sty_le (wl_le K s q)) (spl_le K s a q c)
      · split
        · exact Nat.le_trans (Nat.sub_le _ _) (spl_le K s a q _)
        · exact spl_le K s a q c
theorem sub_pow_tb {q c i : Nat} (h1 : 2 ^ q ≤ c) (h2 : c < 2 ^ (q + 1)) : c.testBit i = (decide (i = q) || (c - 2 ^ q).testBit i) := by
  have h3 : c - 2 ^ q < 2 ^ q := by rw [pow_dbl] at h2; omega
  have := add_pow_tb (P := q) (k := c - 2 ^ q) (i := i) h3
  rw [show 2 ^ q + (c - 2 ^ q) = c by omega] at this
  rw [this]
  by_cases hi : i = q
  · simp [hi]
  · simp [hi]
theorem spl_pt (K : KT) (s a : Nat) : ∀ q c, spl K s a q c = if c < 2 ^ q ∧ c &&& s = 0 then pt K s a q (s ||| c) else 0
  | 0, c => by
    unfold spl pt
    by_cases hc : c = 0
    · subst hc; simp
    · rw [if_neg hc, if_neg (fun z => hc (by simpa using z.1))]
  | q + 1, c => by
    have ih := spl_pt K s a q
    by_cases hs : s.testBit q = true
    · rw [spl, if_pos hs, pt_t K hs, ih c]
      have e : (c < 2 ^ q ∧ c &&& s = 0) ↔ (c < 2 ^ (q + 1) ∧ c &&& s = 0) := by
        constructor
        · intro z
          exact ⟨Nat.lt_trans z.1 (Nat.pow_lt_pow_right (by decide) (by omega)), z.2⟩
        · intro z
          refine ⟨?_, z.2⟩
          apply Classical.byContradiction
          intro w
          have h1 := sub_pow_tb (i := q) (show 2 ^ q ≤ c by omega) z.1
          have h2 := congrArg (fun x => x.testBit q) z.2
          simp [Nat.testBit_and, h1, hs] at h2
      by_cases hc : c < 2 ^ q ∧ c &&& s = 0
      · rw [if_pos hc, if_pos (e.mp hc)]
      · rw [if_neg hc, if_neg (fun z => hc (e.mpr z))]
    · have hs' : s.testBit q = false := by simpa using hs
      rw [spl, if_neg hs, pt_f K hs']
      show (if c < 2 ^ q then sty (wl K s q) (spl K s a q c) else if c < 2 ^ (q + 1) then spl K s a q (c - 2 ^ q) - sty (wl K s q) (spl K s a q (c - 2 ^ q)) else spl K s a q c) = _
      have hdb := pow_dbl q
      by_cases h1 : c < 2 ^ q
      · rw [if_pos h1, ih c]
        by_cases hz : c &&& s = 0
        · rw [if_pos ⟨h1, hz⟩, if_pos ⟨by omega, hz⟩]
          have hb : (s ||| c).testBit q = false := by rw [Nat.testBit_or, hs', tb_big h1 (Nat.le_refl _)]; rfl
          rw [dvd1_lo hb]
        · rw [if_neg (fun z => hz z.2), if_neg (fun z => hz z.2), sty_0]
      · rw [if_neg h1]
        by_cases h2 : c < 2 ^ (q + 1)
        · rw [if_pos h2, ih (c - 2 ^ q)]
          have h3 : c - 2 ^ q < 2 ^ q := by omega
          have htb := fun i => sub_pow_tb (i := i) (show 2 ^ q ≤ c by omega) h2
          have ez : (c - 2 ^ q) &&& s = c &&& s := tb_ext (fun i => by
            rw [Nat.testBit_and, Nat.testBit_and, htb i]
            by_cases hi : i = q
            · subst hi; rw [hs']; simp
            · simp [hi])
          have eo : s ||| c = (s ||| (c - 2 ^ q)) ||| 2 ^ q := tb_ext (fun i => by
            rw [Nat.testBit_or, Nat.testBit_or, Nat.testBit_or, htb i, pow_tb]
            by_cases hi : i = q
            · simp [hi]
            · simp [hi, Ne.symm hi])
          have hb : (s ||| (c - 2 ^ q)).testBit q = false := by rw [Nat.testBit_or, hs', tb_big h3 (Nat.le_refl _)]; rfl
          by_cases hz : c &&& s = 0
          · rw [if_pos ⟨h3, by rw [ez]; exact hz⟩, if_pos ⟨h2, hz⟩, eo, dvd1_hi hb]
          · rw [if_neg (fun z => hz (by rw [← ez]; exact z.2)), if_neg (fun z => hz z.2), sty_0]
        · rw [if_neg h2, ih c, if_neg (fun z => h1 z.1), if_neg (fun z => h2 z.1)]
theorem spl_sum (K : KT) {s a P t : Nat} (hs : s < 2 ^ P) (ht : t < 2 ^ P) : fb_sm (fun c => if s ||| c = t then spl K s a P c else 0) (2 ^ P) = pt K s a P t := by
  by_cases hsub : ∀ i, s.testBit i = true → t.testBit i = true
  · have hc0 : andn t s < 2 ^ P := andn_lt ht
    have e0 : s ||| andn t s = t := tb_ext (fun i => by
      rw [Nat.testBit_or, andn_tb]
      have := hsub i
      revert this
      cases s.testBit i <;> cases t.testBit i <;> simp)
    have e1 : andn t s &&& s = 0 := tb_ext (fun i => by
      rw [Nat.testBit_and, andn_tb, Nat.zero_testBit]
      cases s.testBit i <;> simp)
    have ef : ∀ c, c < 2 ^ P → (if s ||| c = t then spl K s a P c else 0) = if c = andn t s then pt K s a P t else 0 := by
      intro c hc
      by_cases h1 : c = andn t s
      · rw [if_pos h1, h1, if_pos e0, spl_pt, if_pos ⟨hc0, e1⟩, e0]
      · rw [if_neg h1]
        by_cases h2 : s ||| c = t
        · rw [if_pos h2, spl_pt, if_neg]
          intro z
          apply h1
          refine tb_ext (fun i => ?_)
          have z2 := congrArg (fun x => x.testBit i) z.2
          have z3 := congrArg (fun x => x.testBit i) h2
          simp only [Nat.testBit_and, Nat.zero_testBit, Nat.testBit_or] at z2 z3
          rw [andn_tb, ← z3]
          revert z2
          cases s.testBit i <;> cases c.testBit i <;> simp
        · rw [if_neg h2]
    rw [fb_sm_cong ef, one_sum hc0]
  · have h0 : pt K s a P t = 0 := by
      apply Classical.byContradiction
      intro z
      exact hsub (pt_sup K s a P t (by omega)).1
    rw [h0]
    have ef : ∀ c, c < 2 ^ P → (if s ||| c = t then spl K s a P c else 0) = 0 := by
      intro c _
      rw [if_neg]
      intro z
      apply hsub
      intro i hi
      rw [← z, Nat.testBit_or, hi]; rfl
    rw [fb_sm_cong (g := fun _ => 0) ef, fb_sm_const]; simp
section
variable {E : En} {I : TI} {J : TJ} {co dr : Nat} {cc a1 a2 : Option Nat} {Post : PT} {K : KT}
theorem mr_wellOf (hB : KB K) (hM : MB I K) {q s : Nat} (hq : q < 10) (hs : s < 2 ^ 31) (Kk : Post (some (.long (lN (wl K s q)))) NC I J (RR co dr cc a1 a2)) : Cal E 2 M_X11_wellOf [.ref 70, .int (nI q), .int (nI s)] NC I J (RR co dr cc a1 a2) Post := by
  have hP := hB.1.1
  refine Cal_of kn_X11_wellOf rfl (Nat.le_of_ble_eq_true rfl) ?_
  refine V_ldc2_w dX11_wellOf_0 ct_X11_262 (V_lstore_3 dX11_wellOf_3 (by decide) rfl (V_iconst (v := 0) dX11_wellOf_4 (by decide) (V_istore_5 dX11_wellOf_5 (by decide) rfl ?_)))
  have key : ∀ k, k ≤ K 0 0 → V E 2 M_X11_wellOf Post 7 [some (.ref 70), some (.int (nI q)), some (.int (nI s)), some (.long (lN (wlr K s q k))), none, some (.int (nI k))] [] NC 0 0 I J (RR co dr cc a1 a2) := by
    refine loop_up (K 0 0) ?_ ?_
    · refine V_iload dX11_wellOf_7 rfl (V_aload_n dX11_wellOf_9 rfl rfl ?_)
      refine V_getR dX11_wellOf_10 fl_X11_13 (by first | assumption | exact ⟨by decide, rfl⟩) (by first | assumption | rfl) ?_
      refine V_iconst (v := 0) dX11_wellOf_13 (by decide) ?_
      refine V_ial dX11_wellOf_14 (by first | assumption | exact ⟨by decide, rfl⟩) (show ix _ 0 _ from ⟨rfl, by decide⟩) ?_
      refine V_icmp_ge_t (tgt := 60) dX11_wellOf_15 (by decide) (by rw [hM.n0]; exact nI_le (by omega) (by omega)) ?_
      refine V_lload_n dX11_wellOf_60 rfl rfl ?_
      refine V_lreturn dX11_wellOf_61 rfl rfl (by decide) (by decide) ?_
      exact Kk
    · intro k hk ih
      have hw := wlr_le K s q k
      have hc := hB.2.2.2.2.2.2 (10 * k + q)
      refine V_iload dX11_wellOf_7 rfl (V_aload_n dX11_wellOf_9 rfl rfl ?_)
      refine V_getR dX11_wellOf_10 fl_X11_13 (by first | assumption | exact ⟨by decide, rfl⟩) (by first | assumption | rfl) ?_
      refine V_iconst (v := 0) dX11_wellOf_13 (by decide) ?_
      refine V_ial dX11_wellOf_14 (by first | assumption | exact ⟨by decide, rfl⟩) (show ix _ 0 _ from ⟨rfl, by decide⟩) ?_
      refine V_icmp_ge_f (tgt := 60) dX11_wellOf_15 (by decide) (by rw [hM.n0]; exact nI_ge hk (by omega)) ?_
      refine V_iload_n dX11_wellOf_18 rfl rfl (V_iload dX11_wellOf_19 rfl ?_)
      refine V_cS2i (M' := M_X11_has) (d' := 1) dX11_wellOf_21 (Or.inl ml_X11_183) kb_X11_has (by first | decide | omega) (by simp [Value.category]) ⟨by decide, by decide⟩ ?_
      refine sp_mhas hs (by omega) ⟨_, rfl, ?_⟩
      cases hb : s.testBit k
      · rw [wlr_f K hb] at ih
        refine V_if_eq_t (tgt := 52) dX11_wellOf_24 (by decide) (rfl) ?_
        refine V_lload_n dX11_wellOf_52 rfl rfl (V_lstore_3 dX11_wellOf_53 (by decide) rfl (V_iinc_5 (w := 1) dX11_wellOf_54 (by decide) (by decide) rfl (V_goto (tgt := 7) dX11_wellOf_57 (by decide) ?_)))
        rw [nI_1]
        exact ih
      · rw [wlr_t K hb] at ih
        have hm : wlr K s q k * (100 - K 11 (10 * k + q)) ≤ 1000000 * 100 := Nat.mul_le_mul hw (by omega)
        refine V_if_eq_f (tgt := 52) dX11_wellOf_24 (by decide) (by decide) ?_
        refine V_lload_n dX11_wellOf_27 rfl rfl (V_bipush (v := 100) dX11_wellOf_28 (by decide) (V_aload_n dX11_wellOf_30 rfl rfl ?_))
        refine V_getR dX11_wellOf_31 fl_X11_55 (by first | assumption | exact ⟨by decide, rfl⟩) (by first | assumption | rfl) ?_
        refine V_bipush (v := 10) dX11_wellOf_34 (by decide) (V_iload dX11_wellOf_36 rfl (V_imul dX11_wellOf_38 (V_iload_n dX11_wellOf_39 rfl rfl (V_iadd dX11_wellOf_40 ?_))))
        refine V_ial dX11_wellOf_41 (by first | assumption | exact ⟨by decide, rfl⟩) (show ix _ (10 * k + q) 200 from ixm (c := 10) (by omega)) ?_
        refine V_isub dX11_wellOf_42 (V_i2l dX11_wellOf_43 (V_lmul dX11_wellOf_44 (V_ldc2_w dX11_wellOf_45 ct_X11_264 (V_ldiv dX11_wellOf_48 (by decide) (V_goto (tgt := 53) dX11_wellOf_49 (by decide) ?_)))))
        refine V_lstore_3 dX11_wellOf_53 (by decide) rfl (V_iinc_5 (w := 1) dX11_wellOf_54 (by decide) (by decide) rfl (V_goto (tgt := 7) dX11_wellOf_57 (by decide) ?_))
        rw [hM.cld (by omega), show (100 : Int32) = nI 100 from rfl, pk_sub hc, nI_l (by omega), lN_mul, show (100 : Int64) = lN 100 from rfl, pk_lDiv (by omega) (by omega) (by omega), nI_1]
        exact ih
  exact key 0 (Nat.zero_le _)
theorem sty_lN {x w : Nat} (hx : x ≤ 1000000) (hw : w ≤ 1000000) : ((nI x).toInt64 * lN w / 1000000).toInt32 = nI (sty w x) := by
  have h : x * w ≤ 1000000 * 1000000 := Nat.mul_le_mul hx hw
  rw [nI_l (by omega), lN_mul, show (1000000 : Int64) = lN 1000000 from rfl, pk_lDiv (by omega) (by omega) (by omega), lN_i]
  rfl
theorem or_pow_add {q c : Nat} (h : c < 2 ^ q) : c ||| 2 ^ q = 2 ^ q + c := by
  have := Nat.two_pow_add_eq_or_of_lt (i := q) h 1
  rw [Nat.mul_one] at this
  rw [this, Nat.or_comm]
theorem mr_partState (hB : KB K) (hM : MB I K) {s a : Nat} (hs : s < 2 ^ K 0 0) (ha : a ≤ 1000000) (hh : I 101 s = nI a) {N : Nat → Nat} (hN : ∀ t, t < 2 ^ K 0 0 → I 102 t = nI (N t)) (Kk : ∀ I', (∀ x y, x ≠ 102 → x ≠ 103 → I' x y = I x y) → (∀ t, t < 2 ^ K 0 0 → I' 102 t = nI (N t + pt K s a (K 0 0) t)) → Post none NC I' J (RR co dr cc a1 a2)) : Cal E 3 M_X11_partState [.ref 70, .int (nI s), .int (nI (2 ^ K 0 0 - 1))] NC I J (RR co dr cc a1 a2) Post := by
  have hP := hB.1.1
  have hpw : 2 ^ K 0 0 ≤ 1024 := Nat.pow_le_pow_right (n := 2) (by decide) hP
  have hpos : 1 ≤ 2 ^ K 0 0 := Nat.one_le_two_pow
  refine Cal_of kn_X11_partState rfl (Nat.le_of_ble_eq_true rfl) ?_
  refine V_iconst (v := 0) dX11_partState_0 (by decide) (V_istore_3 dX11_partState_1 (by decide) rfl ?_)
  have key1 : ∀ c, c ≤ 2 ^ K 0 0 → ∀ I1, (∀ x y, x ≠ 103 → I1 x y = I x y) → (∀ j, j < c → I1 103 j = 0) → V E 3 M_X11_partState Post 2 [some (.ref 70), some (.int (nI s)), some (.int (nI (2 ^ K 0 0 - 1))), some (.int (nI c)), none, none, none, none] [] NC 0 0 I1 J (RR co dr cc a1 a2) := by
    refine loop_up (2 ^ K 0 0) ?_ ?_
    · intro I1 f1 g1
      refine V_iload_n dX11_partState_2 rfl rfl (V_iload_n dX11_partState_3 rfl rfl ?_)
      refine V_icmp_gt_t (tgt := 20) dX11_partState_4 (by decide) (nI_lt (by omega) (by omega)) ?_
      refine V_aload_n dX11_partState_20 rfl rfl ?_
      refine V_getR dX11_partState_21 fl_X11_106 (by first | assumption | exact ⟨by decide, rfl⟩) (by first | assumption | rfl) ?_
      refine V_iconst (v := 0) dX11_partState_24 (by decide) (V_aload_n dX11_partState_25 rfl rfl ?_)
      refine V_getR dX11_partState_26 fl_X11_100 (by first | assumption | exact ⟨by decide, rfl⟩) (by first | assumption | rfl) ?_
      refine V_iload_n dX11_partState_29 rfl rfl ?_
      refine V_ial dX11_partState_30 (by first | assumption | exact ⟨by decide, rfl⟩) (show ix _ s 1024 from ⟨rfl, by omega⟩) ?_
      refine V_ias dX11_partState_31 (by first | assumption | exact ⟨by decide, rfl⟩) (show ix _ 0 _ from ⟨rfl, by decide⟩) ?_
      refine V_iconst (v := 0) dX11_partState_32 (by decide) (V_istore_3 dX11_partState_33 (by decide) rfl ?_)
      rw [f1 101 s (by omega), hh]
      have key2 : ∀ q, q ≤ K 0 0 → ∀ I2, (∀ x y, x ≠ 103 → I2 x y = I x y) → (∀ c, c < 2 ^ K 0 0 → I2 103 c = nI (spl K s a q c)) → V E 3 M_X11_partState Post 34 [some (.ref 70), some (.int (nI s)), some (.int (nI (2 ^ K 0 0 - 1))), some (.int (nI q)), none, none, none, none] [] NC 0 0 I2 J (RR co dr cc a1 a2) := by
        refine loop_up (K 0 0) ?_ ?_
        · intro I2 f2 g2
          have hM2 : MB I2 K := hM.all hB (fun x y a b => f2 x y (by omega))
          refine V_iload_n dX11_partState_34 rfl rfl (V_aload_n dX11_partState_35 rfl rfl ?_)
          refine V_getR dX11_partState_36 fl_X11_13 (by first | assumption | exact ⟨by decide, rfl⟩) (by first | assumption | rfl) ?_
          refine V_iconst (v := 0) dX11_partState_39 (by decide) ?_
          refine V_ial dX11_partState_40 (by first | assumption | exact ⟨by decide, rfl⟩) (show ix _ 0 _ from ⟨rfl, by decide⟩) ?_
          refine V_icmp_ge_t (tgt := 131) dX11_partState_41 (by decide) (by rw [hM2.n0]; exact nI_le (by omega) (by omega)) ?_
          refine V_iconst (v := 0) dX11_partState_131 (by decide) (V_istore_3 dX11_partState_132 (by decide) rfl ?_)
          have key3 : ∀ c, c ≤ 2 ^ K 0 0 → ∀ I3, (∀ x y, x ≠ 102 → I3 x y = I2 x y) → (∀ t, t < 2 ^ K 0 0 → I3 102 t = nI (N t + fb_sm (fun c => if s ||| c = t then spl K s a (K 0 0) c else 0) c)) → V E 3 M_X11_partState Post 133 [some (.ref 70), some (.int (nI s)), some (.int (nI (2 ^ K 0 0 - 1))), some (.int (nI c)), none, none, none, none] [] NC 0 0 I3 J (RR co dr cc a1 a2) := by
            refine loop_up (2 ^ K 0 0) ?_ ?_
            · intro I3 f3 g3
              refine V_iload_n dX11_partState_133 rfl rfl (V_iload_n dX11_partState_134 rfl rfl ?_)
              refine V_icmp_gt_t (tgt := 161) dX11_partState_135 (by decide) (nI_lt (by omega) (by omega)) ?_
              refine V_return dX11_partState_161 rfl rfl (by decide) (by decide) ?_
              exact Kk I3 (fun x y a b => by rw [f3 x y a, f2 x y b]) (fun t ht => by rw [g3 t ht, spl_sum K hs ht])
            · intro c hc ih I3 f3 g3
              have hor : s ||| c < 2 ^ K 0 0 := Nat.or_lt_two_pow hs hc
              have eo : nI s ||| nI c = nI (s ||| c) := or_nI s c
              have io : ix (nI s ||| nI c) (s ||| c) 1024 := ⟨eo, by omega⟩
              refine V_iload_n dX11_partState_133 rfl rfl (V_iload_n dX11_partState_134 rfl rfl ?_)
              refine V_icmp_gt_f (tgt := 161) dX11_partState_135 (by decide) (by rw [lit_lt (by omega) (by omega)]; omega) ?_
              refine V_aload_n dX11_partState_138 rfl rfl ?_
              refine V_getR dX11_partState_139 fl_X11_103 (by first | assumption | exact ⟨by decide, rfl⟩) (by first | assumption | rfl) ?_
              refine V_iload_n dX11_partState_142 rfl rfl (V_iload_n dX11_partState_143 rfl rfl (V_ior dX11_partState_144 (V_dup2 dX11_partState_145 rfl rfl ?_)))
              refine V_ial dX11_partState_146 (by first | assumption | exact ⟨by decide, rfl⟩) io ?_
              refine V_aload_n dX11_partState_147 rfl rfl ?_
              refine V_getR dX11_partState_148 fl_X11_106 (by first | assumption | exact ⟨by decide, rfl⟩) (by first | assumption | rfl) ?_
              refine V_iload_n dX11_partState_151 rfl rfl ?_
              refine V_ial dX11_partState_152 (by first | assumption | exact ⟨by decide, rfl⟩) (show ix _ c 1024 from ⟨rfl, by omega⟩) ?_
              refine V_iadd dX11_partState_153 ?_
              refine V_ias dX11_partState_154 (by first | assumption | exact ⟨by decide, rfl⟩) io ?_
              refine V_iinc_3 (w := 1) dX11_partState_155 (by decide) (by decide) rfl (V_goto (tgt := 133) dX11_partState_158 (by decide) ?_)
              rw [f3 103 c (by omega), g2 c hc, g3 _ hor, nI_add, nI_1]
              refine ih _ (fun x y a => by rw [u2n (by omega)]; exact f3 x y a) (fun t ht => ?_)
              rw [fb_sm_succ]
              by_cases htt : t = s ||| c
              · rw [htt, u2e, if_pos rfl, Nat.add_assoc]
              · rw [u2n (by omega), if_neg (Ne.symm htt), Nat.add_zero]; exact g3 t ht
          exact key3 0 (Nat.zero_le _) I2 (fun _ _ _ => rfl) (fun t ht => by rw [f2 _ _ (by omega)]; exact hN t ht)
        · intro q hq ih I2 f2 g2
          have hM2 : MB I2 K := hM.all hB (fun x y a b => f2 x y (by omega))
          have hq2 : 2 ^ (q + 1) ≤ 2 ^ K 0 0 := Nat.pow_le_pow_right (by decide) (by omega)
          have hdb := pow_dbl q
          refine V_iload_n dX11_partState_34 rfl rfl (V_aload_n dX11_partState_35 rfl rfl ?_)
          refine V_getR dX11_partState_36 fl_X11_13 (by first | assumption | exact ⟨by decide, rfl⟩) (by first | assumption | rfl) ?_
          refine V_iconst (v := 0) dX11_partState_39 (by decide) ?_
          refine V_ial dX11_partState_40 (by first | assumption | exact ⟨by decide, rfl⟩) (show ix _ 0 _ from ⟨rfl, by decide⟩) ?_
          refine V_icmp_ge_f (tgt := 131) dX11_partState_41 (by decide) (by rw [hM2.n0]; exact nI_ge hq (by omega)) ?_
          refine V_iload_n dX11_partState_44 rfl rfl (V_iload_n dX11_partState_45 rfl rfl ?_)
          refine V_cS2i (M' := M_X11_has) (d' := 1) dX11_partState_46 (Or.inl ml_X11_183) kb_X11_has (by first | decide | omega) (by simp [Value.category]) ⟨by decide, by decide⟩ ?_
          refine sp_mhas (pw31 hP hs) (by omega) ⟨_, rfl, ?_⟩
          cases hb : s.testBit q
          · have es : spl K s a (q + 1) = fun c => if c < 2 ^ q then sty (wl K s q) (spl K s a q c) else if c < 2 ^ (q + 1) then spl K s a q (c - 2 ^ q) - sty (wl K s q) (spl K s a q (c - 2 ^ q)) else spl K s a q c := by
              show (if s.testBit q = true then _ else _) = _
              rw [hb]; rfl
            rw [es] at ih
            have hwl := wl_le K s q
            refine V_if_ne_f (tgt := 125) dX11_partState_49 (by decide) (rfl) ?_
            refine V_aload_n dX11_partState_52 rfl rfl (V_iload_n dX11_partState_53 rfl rfl (V_iload_n dX11_partState_54 rfl rfl ?_))
            refine V_cV2l (M' := M_X11_wellOf) (d' := 2) dX11_partState_55 (Or.inl ml_X11_266) kb_X11_wellOf (by first | assumption | exact ⟨by decide, rfl⟩) (by first | decide | omega) (by simp [Value.category]) ⟨by decide, by decide⟩ ?_
            refine mr_wellOf hB hM2 (by omega) (pw31 hP hs) ⟨_, rfl, ?_⟩
            refine V_lstore_4 dX11_partState_58 (by decide) rfl (V_iconst (v := 0) dX11_partState_60 (by decide) (V_istore_6 dX11_partState_61 (by decide) rfl ?_))
            have key4 : ∀ k, k ≤ 2 ^ q → ∀ I3, (∀ x y, x ≠ 103 → I3 x y = I x y) → (∀ c, c < 2 ^ K 0 0 → I3 103 c = nI (if c < k then sty (wl K s q) (spl K s a q c) else if 2 ^ q ≤ c ∧ c < 2 ^ q + k then spl K s a q (c - 2 ^ q) - sty (wl K s q) (spl K s a q (c - 2 ^ q)) else spl K s a q c)) → V E 3 M_X11_partState Post 63 [some (.ref 70), some (.int (nI s)), some (.int (nI (2 ^ K 0 0 - 1))), some (.int (nI q)), some (.long (lN (wl K s q))), none, some (.int (nI k)), none] [] NC 0 0 I3 J (RR co dr cc a1 a2) := by
              refine loop_up (2 ^ q) ?_ ?_
              · intro I3 f3 g3
                refine V_iload dX11_partState_63 rfl (V_iconst (v := 1) dX11_partState_65 (by decide) (V_iload_n dX11_partState_66 rfl rfl (V_ishl dX11_partState_67 ?_)))
                refine V_icmp_ge_t (tgt := 125) dX11_partState_68 (by decide) (by rw [shl1 (by omega)]; exact nI_le (by omega) (by omega)) ?_
                refine V_iinc_3 (w := 1) dX11_partState_125 (by decide) (by decide) rfl (V_goto (tgt := 34) dX11_partState_128 (by decide) ?_)
                rw [nI_1]
                refine V_forget (ih I3 f3 (fun c hc => ?_)) (by simp [lessb])
                rw [g3 c hc]
                show _ = nI (if c < 2 ^ q then sty (wl K s q) (spl K s a q c) else if c < 2 ^ (q + 1) then spl K s a q (c - 2 ^ q) - sty (wl K s q) (spl K s a q (c - 2 ^ q)) else spl K s a q c)
                by_cases h1 : c < 2 ^ q
                · rw [if_pos h1, if_pos h1]
                · rw [if_neg h1, if_neg h1]
                  by_cases h2 : c < 2 ^ (q + 1)
                  · rw [if_pos (by omega), if_pos h2]
                  · rw [if_neg (by omega), if_neg h2]
              · intro k hk ih4 I3 f3 g3
                have hx := spl_le K s a q k
                have hgk : I3 103 k = nI (spl K s a q k) := by
                  rw [g3 k (by omega), if_neg (by omega), if_neg (by omega)]
                have esty : ((I3 103 k).toInt64 * lN (wl K s q) / 1000000).toInt32 = nI (sty (wl K s q) (spl K s a q k)) := by rw [hgk, sty_lN (by omega) hwl]
                have hsl := sty_le (w := wl K s q) (x := spl K s a q k) hwl
                have io : ix (nI k ||| ((1 : Int32) <<< (nI q &&& 31))) (2 ^ q + k) 1024 := ⟨by rw [shl1 (by omega), or_nI, or_pow_add hk], by omega⟩
                refine V_iload dX11_partState_63 rfl (V_iconst (v := 1) dX11_partState_65 (by decide) (V_iload_n dX11_partState_66 rfl rfl (V_ishl dX11_partState_67 ?_)))
                refine V_icmp_ge_f (tgt := 125) dX11_partState_68 (by decide) (by rw [shl1 (by omega)]; exact nI_ge hk (by omega)) ?_
                refine V_aload_n dX11_partState_71 rfl rfl ?_
                refine V_getR dX11_partState_72 fl_X11_106 (by first | assumption | exact ⟨by decide, rfl⟩) (by first | assumption | rfl) ?_
                refine V_iload dX11_partState_75 rfl ?_
                refine V_ial dX11_partState_77 (by first | assumption | exact ⟨by decide, rfl⟩) (show ix _ k 1024 from ⟨rfl, by omega⟩) ?_
                refine V_i2l dX11_partState_78 (V_lload dX11_partState_79 rfl (V_lmul dX11_partState_81 (V_ldc2_w dX11_partState_82 ct_X11_262 (V_ldiv dX11_partState_85 (by decide) (V_l2i dX11_partState_86 ?_)))))
                refine V_istore_7 dX11_partState_87 (by decide) rfl (V_aload_n dX11_partState_89 rfl rfl ?_)
                refine V_getR dX11_partState_90 fl_X11_106 (by first | assumption | exact ⟨by decide, rfl⟩) (by first | assumption | rfl) ?_
                refine V_iload dX11_partState_93 rfl (V_iconst (v := 1) dX11_partState_95 (by decide) (V_iload_n dX11_partState_96 rfl rfl (V_ishl dX11_partState_97 (V_ior dX11_partState_98 (V_aload_n dX11_partState_99 rfl rfl ?_)))))
                refine V_getR dX11_partState_100 fl_X11_106 (by first | assumption | exact ⟨by decide, rfl⟩) (by first | assumption | rfl) ?_
                refine V_iload dX11_partState_103 rfl ?_
                refine V_ial dX11_partState_105 (by first | assumption | exact ⟨by decide, rfl⟩) (show ix _ k 1024 from ⟨rfl, by omega⟩) ?_
                refine V_iload dX11_partState_106 rfl (V_isub dX11_partState_108 ?_)
                refine V_ias dX11_partState_109 (by first | assumption | exact ⟨by decide, rfl⟩) io ?_
                refine V_aload_n dX11_partState_110 rfl rfl ?_
                refine V_getR dX11_partState_111 fl_X11_106 (by first | assumption | exact ⟨by decide, rfl⟩) (by first | assumption | rfl) ?_
                refine V_iload dX11_partState_114 rfl (V_iload dX11_partState_116 rfl ?_)
                refine V_ias dX11_partState_118 (by first | assumption | exact ⟨by decide, rfl⟩) (show ix _ k 1024 from ⟨rfl, by omega⟩) ?_
                refine V_iinc_6 (w := 1) dX11_partState_119 (by decide) (by decide) rfl (V_goto (tgt := 63) dX11_partState_122 (by decide) ?_)
                rw [esty, hgk, pk_sub hsl, nI_1]
                refine V_forget (ih4 _ (fun x y a => by rw [u2n (by omega), u2n (by omega)]; exact f3 x y a) (fun c hc => ?_)) (by simp [lessb])
                by_cases h1 : c = k
                · subst h1
                  rw [u2e, if_pos (by omega)]
                · rw [u2n (by omega)]
                  by_cases h2 : c = 2 ^ q + k
                  · rw [h2, u2e, if_neg (by omega), if_pos (by omega), show 2 ^ q + k - 2 ^ q = k by omega]
                  · rw [u2n (by omega), g3 c hc]
                    by_cases h3 : c < k
                    · rw [if_pos h3, if_pos (by omega)]
                    · rw [if_neg h3, if_neg (show ¬ c < k + 1 by omega)]
                      by_cases h4 : 2 ^ q ≤ c ∧ c < 2 ^ q + k
                      · rw [if_pos h4, if_pos (by omega)]
                      · rw [if_neg h4, if_neg (by omega)]
            exact key4 0 (Nat.zero_le _) I2 f2 (fun c hc => by rw [if_neg (by omega), if_neg (by omega)]; exact g2 c hc)
          · have es : spl K s a (q + 1) = spl K s a q := by
              show (if s.testBit q = true then _ else _) = _
              rw [hb]; rfl
            rw [es] at ih
            refine V_if_ne_t (tgt := 125) dX11_partState_49 (by decide) (by decide) ?_
            refine V_iinc_3 (w := 1) dX11_partState_125 (by decide) (by decide) rfl (V_goto (tgt := 34) dX11_partState_128 (by decide) ?_)
            rw [nI_1]
            exact ih I2 f2 g2
      exact key2 0 (Nat.zero_le _) _ (fun x y a => by rw [u2n (by omega)]; exact f1 x y a) (fun c hc => by
        show _ = nI (if c = 0 then a else 0)
        by_cases h0 : c = 0
        · rw [h0, u2e, if_pos rfl]
        · rw [u2n (by omega), if_neg h0]; exact g1 c hc)
    · intro c hc ih I1 f1 g1
      refine V_iload_n dX11_partState_2 rfl rfl (V_iload_n dX11_partState_3 rfl rfl ?_)
      refine V_icmp_gt_f (tgt := 20) dX11_partState_4 (by decide) (by rw [lit_lt (by omega) (by omega)]; omega) ?_
      refine V_aload_n dX11_partState_7 rfl rfl ?_
      refine V_getR dX11_partState_8 fl_X11_106 (by first | assumption | exact ⟨by decide, rfl⟩) (by first | assumption | rfl) ?_
      refine V_iload_n dX11_partState_11 rfl rfl (V_iconst (v := 0) dX11_partState_12 (by decide) ?_)
      refine V_ias dX11_partState_13 (by first | assumption | exact ⟨by decide, rfl⟩) (show ix _ c 1024 from ⟨rfl, by omega⟩) ?_
      refine V_iinc_3 (w := 1) dX11_partState_14 (by decide) (by decide) rfl (V_goto (tgt := 2) dX11_partState_17 (by decide) ?_)
      rw [nI_1]
      refine ih _ (fun x y a => by rw [u2n (by omega)]; exact f1 x y a) (fun j hj => ?_)
      by_cases hjc : j = c
      · rw [hjc, u2e]
      · rw [u2n (by omega)]; exact g1 j (by omega)
  exact key1 0 (Nat.zero_le _) I (fun _ _ _ => rfl) (fun j hj => absurd hj (by omega))
end
