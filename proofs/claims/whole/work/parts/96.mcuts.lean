/-! Calls of the reference: cuts, weak -/
def FJ (J J' : TJ) : Prop := ∀ x y, (x ≠ 70 ∨ y ≠ 30) → J' x y = J x y
theorem FJ.trans {J J1 J2 : TJ} (g : FJ J J1) (h : FJ J1 J2) : FJ J J2 := fun x y a => (h x y a).trans (g x y a)
theorem FJ.refl {J : TJ} : FJ J J := fun _ _ _ => rfl
theorem FJ.mk {J J' : TJ} (g : FJ J J') : ∀ x y, x ≠ 70 → J' x y = J x y := fun x y a => g x y (Or.inl a)
theorem andn_le {s m : Nat} (h : andn s m = 0) : s ≤ m := by
  have h1 := and_eq_andn.mpr h
  have h2 : m &&& s ≤ m := Nat.and_le_left
  omega
theorem ccut_top (K : KT) (off : Nat) : ∀ n, ccut K off (cutM K + 1 + n) = ccut K off (cutM K + 1)
  | 0 => rfl
  | n + 1 => by
    have e : ccut K off (cutM K + 1 + n + 1) = ccut K off (cutM K + 1 + n) := by
      rw [ccut, if_neg]
      intro z
      have := andn_le z.1
      omega
    rw [← Nat.add_assoc, e, ccut_top K off n]
theorem in_01 {x : Int32} : decide ((0 : Int64).toInt ≤ x.toInt64.toInt ∧ x.toInt64.toInt ≤ (1 : Int64).toInt) = inR x 2 := by
  rw [in_C (u := 0) (v := 1) (by decide) (by decide)]
  exact decide_eq_decide.mpr (by omega)
theorem pop_drop : ∀ k, k < 1024 → k ≠ 0 → pop (k &&& (k - 1)) + 1 = pop k ∧ k &&& (k - 1) < 1024 := by decide +kernel
theorem pop_0 : pop 0 = 0 := by decide
theorem nthf_0 {p : Nat → Bool} {n : Nat} (h : fb_ct p n = 0) (hp : p n = true) : nthf p (n + 1) 0 = n := by
  have := nthf_at hp (n := n + 1) (by omega)
  rwa [h] at this
section
variable {E : En} {I : TI} {J : TJ} {co dr : Nat} {cc a1 a2 : Option Nat} {Post : PT} {K : KT} {D : Di} {d : Nat}
theorem mr_bits {R : TR} {n s : Nat} (hs : s < 1024) (Kk : Post (some (.int (nI (pop s)))) n I J R) : Cal E d M_X11_bits [.int (nI s)] n I J R Post := by
  refine Cal_of kn_X11_bits rfl (Nat.le_of_ble_eq_true rfl) ?_
  refine V_iconst (v := 0) dX11_bits_0 (by decide) (V_istore_1 dX11_bits_1 (by decide) rfl (V_iload_n dX11_bits_2 rfl rfl (V_istore_2 dX11_bits_3 (by decide) rfl ?_)))
  have key : ∀ m k c, k < 1024 → pop k = m → c + m = pop s → V E d M_X11_bits Post 4 [some (.int (nI s)), some (.int (nI c)), some (.int (nI k))] [] n 0 0 I J R := by
    intro m
    induction m with
    | zero =>
      intro k c hk hp hc
      have hk0 : k = 0 := by
        apply Classical.byContradiction
        intro q
        have := (pop_drop k hk q).1
        omega
      subst hk0
      refine V_iload_n dX11_bits_4 rfl rfl ?_
      refine V_if_eq_t (tgt := 20) dX11_bits_5 (by decide) (rfl) ?_
      refine V_iload_n dX11_bits_20 rfl rfl ?_
      refine V_ireturn dX11_bits_21 rfl rfl rfl (by decide) (by decide) ?_
      rw [show c = pop s by omega]
      exact Kk
    | succ m ih =>
      intro k c hk hp hc
      have hk0 : k ≠ 0 := by
        intro q
        rw [q, pop_0] at hp
        omega
      obtain ⟨p1, p2⟩ := pop_drop k hk hk0
      refine V_iload_n dX11_bits_4 rfl rfl ?_
      refine V_if_eq_f (tgt := 20) dX11_bits_5 (by decide) (by rw [← nI_0]; exact fun z => hk0 ((nI_eq (by omega) (by omega)).mp z)) ?_
      refine V_iinc_1 (w := 1) dX11_bits_8 (by decide) (by decide) rfl (V_iload_n dX11_bits_11 rfl rfl (V_iload_n dX11_bits_12 rfl rfl (V_iconst (v := 1) dX11_bits_13 (by decide) (V_isub dX11_bits_14 (V_iand dX11_bits_15 ?_)))))
      refine V_istore_2 dX11_bits_16 (by decide) rfl (V_goto (tgt := 4) dX11_bits_17 (by decide) ?_)
      rw [show (1 : Int32) = nI 1 from rfl, pk_sub (by omega), and_nI, nI_add]
      exact ih _ (c + 1) p2 (by omega) (by omega)
  exact key (pop s) s 0 hs rfl (by omega)
theorem mr_linesIn (hB : KB K) (hM : MB I K) {a : Nat} (ha : a < 2 ^ 31) (Kk : Post (some (.int (nI (lsum K a)))) NC I J (RR co dr cc a1 a2)) : Cal E 2 M_X11_linesIn [.ref 70, .int (nI a)] NC I J (RR co dr cc a1 a2) Post := by
  have hQ := hB.1.2.1
  refine Cal_of kn_X11_linesIn rfl (Nat.le_of_ble_eq_true rfl) ?_
  refine V_iconst (v := 0) dX11_linesIn_0 (by decide) (V_istore_2 dX11_linesIn_1 (by decide) rfl (V_iconst (v := 0) dX11_linesIn_2 (by decide) (V_istore_3 dX11_linesIn_3 (by decide) rfl ?_)))
  have key : ∀ k, k ≤ K 0 1 → V E 2 M_X11_linesIn Post 4 [some (.ref 70), some (.int (nI a)), some (.int (nI (fb_sm (fun i => if a.testBit i then K 6 i else 0) k))), some (.int (nI k))] [] NC 0 0 I J (RR co dr cc a1 a2) := by
    refine loop_up (K 0 1) ?_ ?_
    · refine V_iload_n dX11_linesIn_4 rfl rfl (V_aload_n dX11_linesIn_5 rfl rfl ?_)
      refine V_getR dX11_linesIn_6 fl_X11_22 (by first | assumption | exact ⟨by decide, rfl⟩) (by first | assumption | rfl) ?_
      refine V_iconst (v := 0) dX11_linesIn_9 (by decide) ?_
      refine V_ial dX11_linesIn_10 (by first | assumption | exact ⟨by decide, rfl⟩) (show ix _ 0 _ from ⟨rfl, by decide⟩) ?_
      refine V_icmp_ge_t (tgt := 41) dX11_linesIn_11 (by decide) (by rw [hM.n1]; exact nI_le (by omega) (by omega)) ?_
      refine V_iload_n dX11_linesIn_41 rfl rfl ?_
      refine V_ireturn dX11_linesIn_42 rfl rfl rfl (by decide) (by decide) ?_
      exact Kk
    · intro k hk ih
      rw [fb_sm_succ] at ih
      refine V_iload_n dX11_linesIn_4 rfl rfl (V_aload_n dX11_linesIn_5 rfl rfl ?_)
      refine V_getR dX11_linesIn_6 fl_X11_22 (by first | assumption | exact ⟨by decide, rfl⟩) (by first | assumption | rfl) ?_
      refine V_iconst (v := 0) dX11_linesIn_9 (by decide) ?_
      refine V_ial dX11_linesIn_10 (by first | assumption | exact ⟨by decide, rfl⟩) (show ix _ 0 _ from ⟨rfl, by decide⟩) ?_
      refine V_icmp_ge_f (tgt := 41) dX11_linesIn_11 (by decide) (by rw [hM.n1]; exact nI_ge hk (by omega)) ?_
      refine V_iload_n dX11_linesIn_14 rfl rfl (V_iload_n dX11_linesIn_15 rfl rfl (V_iload_n dX11_linesIn_16 rfl rfl ?_))
      refine V_cS2i (M' := M_X11_has) (d' := 1) dX11_linesIn_17 (Or.inl ml_X11_183) kb_X11_has (by first | decide | omega) (by simp [Value.category]) ⟨by decide, by decide⟩ ?_
      refine sp_mhas ha (by omega) ⟨_, rfl, ?_⟩
      cases hc : a.testBit k
      · rw [hc] at ih
        refine V_if_eq_t (tgt := 32) dX11_linesIn_20 (by decide) (rfl) ?_
        refine V_iconst (v := 0) dX11_linesIn_32 (by decide) (V_iadd dX11_linesIn_33 (V_istore_2 dX11_linesIn_34 (by decide) rfl (V_iinc_3 (w := 1) dX11_linesIn_35 (by decide) (by decide) rfl (V_goto (tgt := 4) dX11_linesIn_38 (by decide) ?_))))
        rw [Int32.add_zero, nI_1]
        exact ih
      · rw [hc, if_pos rfl] at ih
        refine V_if_eq_f (tgt := 32) dX11_linesIn_20 (by decide) (by decide) ?_
        refine V_aload_n dX11_linesIn_23 rfl rfl ?_
        refine V_getR dX11_linesIn_24 fl_X11_31 (by first | assumption | exact ⟨by decide, rfl⟩) (by first | assumption | rfl) ?_
        refine V_iload_n dX11_linesIn_27 rfl rfl ?_
        refine V_ial dX11_linesIn_28 (by first | assumption | exact ⟨by decide, rfl⟩) (show ix _ k 16 from ⟨rfl, by omega⟩) ?_
        refine V_goto (tgt := 33) dX11_linesIn_29 (by decide) (V_iadd dX11_linesIn_33 (V_istore_2 dX11_linesIn_34 (by decide) rfl (V_iinc_3 (w := 1) dX11_linesIn_35 (by decide) (by decide) rfl (V_goto (tgt := 4) dX11_linesIn_38 (by decide) ?_))))
        rw [hM.lin hk, nI_add, nI_1]
        exact ih
  exact key 0 (Nat.zero_le _)
def FrW (I0 I : TI) : Prop := ∀ x y, x ≠ 95 → x ≠ 96 → x ≠ 97 → (x ≠ 70 ∨ y ≠ 31 ∧ y ≠ 39) → I x y = I0 x y
theorem FrW.refl : FrW I I := fun _ _ _ _ _ _ => rfl
theorem FrW.trans {I1 I2 : TI} (g : FrW I I1) (h : FrW I1 I2) : FrW I I2 := fun x y a b c e => (h x y a b c e).trans (g x y a b c e)
theorem FrC.W {I1 : TI} (g : FrC I I1) : FrW I I1 := fun x y a b c e => g x y a b c (by omega)
theorem FrW.MB {I1 : TI} (g : FrW I I1) (hB : KB K) (hM : MB I K) : MB I1 K := hM.all hB (fun x y a b => g x y (by omega) (by omega) (by omega) (by omega))
theorem FrW.MR {I1 : TI} (g : FrW I I1) (hM : MR I K) : MR I1 K := hM.of (fun y => g _ _ (by omega) (by omega) (by omega) (by omega)) (fun y => g _ _ (by omega) (by omega) (by omega) (by omega))
theorem FrW.MDX {I1 : TI} {b : Nat} (g : FrW I I1) (hM : MDX I b D) : MDX I1 b D := hM.of (fun x y a b => g _ _ (by omega) (by omega) (by omega) (by omega))
theorem FrW.lo {I1 : TI} (g : FrW I I1) : ∀ x y, x < 70 → I1 x y = I x y := fun x y a => g x y (by omega) (by omega) (by omega) (by omega)
theorem mr_weakOf (hB : KB K) (hM : MB I K) (hR : MR I K) (hD : MDX I 0 D) (hDB : DB D.1 D.2.1) {k : Nat} (hk : k ≤ 2) (Kk : ∀ I' J', FrW I I' → FJ J J' → I' 70 39 = (if wW K k = 0 then -4 else nI (wkn K k 0)) → Post (some (.int (nI (wW K k)))) NC I' J' (RR co dr cc a1 a2)) : Cal E 5 M_X11_weakOf [.ref 70, .int (nI k)] NC I J (RR co dr cc a1 a2) Post := by
  have hP := hB.1.1
  have hpw : 2 ^ K 0 0 ≤ 1024 := Nat.pow_le_pow_right (n := 2) (by decide) hP
  refine Cal_of kn_X11_weakOf rfl (Nat.le_of_ble_eq_true rfl) ?_
  refine V_iconst (v := 0) dX11_weakOf_0 (by decide) (V_istore_2 dX11_weakOf_1 (by decide) rfl (V_aload_n dX11_weakOf_2 rfl rfl (V_bipush (v := (-4)) dX11_weakOf_3 (by decide) ?_)))
  refine V_putI dX11_weakOf_5 fl_X11_282 (by first | assumption | exact ⟨by decide, rfl⟩) ?_
  refine V_iconst (v := 0) dX11_weakOf_8 (by decide) (V_istore_3 dX11_weakOf_9 (by decide) rfl ?_)
  have key : ∀ s, s ≤ 2 ^ K 0 0 → ∀ I1 J1, FrW I I1 → FJ J J1 → I1 70 39 = (if fb_ct (wk K k) s = 0 then -4 else nI (nthf (wk K k) s 0)) → V E 5 M_X11_weakOf Post 10 [some (.ref 70), some (.int (nI k)), some (.int (nI (fb_ct (wk K k) s))), some (.int (nI s))] [] NC 0 0 I1 J1 (RR co dr cc a1 a2) := by
    refine loop_up (2 ^ K 0 0) ?_ ?_
    · intro I1 J1 f1 j1 h39
      refine V_iload_n dX11_weakOf_10 rfl rfl (V_iconst (v := 1) dX11_weakOf_11 (by decide) (V_aload_n dX11_weakOf_12 rfl rfl ?_))
      refine V_getR dX11_weakOf_13 fl_X11_13 (by first | assumption | exact ⟨by decide, rfl⟩) (by first | assumption | rfl) ?_
      refine V_iconst (v := 0) dX11_weakOf_16 (by decide) ?_
      refine V_ial dX11_weakOf_17 (by first | assumption | exact ⟨by decide, rfl⟩) (show ix _ 0 _ from ⟨rfl, by decide⟩) ?_
      refine V_ishl dX11_weakOf_18 ?_
      refine V_icmp_ge_t (tgt := 65) dX11_weakOf_19 (by decide) (by rw [(f1.MB hB hM).n0, shl1 (by omega)]; exact nI_le (by omega) (by omega)) ?_
      refine V_iload_n dX11_weakOf_65 rfl rfl ?_
      refine V_ireturn dX11_weakOf_66 rfl rfl rfl (by decide) (by decide) ?_
      exact Kk I1 J1 f1 j1 h39
    · intro s hs ih I1 J1 f1 j1 h39
      have hM1 := f1.MB hB hM
      have hcs := fb_ct_le (wk K k) s
      refine V_iload_n dX11_weakOf_10 rfl rfl (V_iconst (v := 1) dX11_weakOf_11 (by decide) (V_aload_n dX11_weakOf_12 rfl rfl ?_))
      refine V_getR dX11_weakOf_13 fl_X11_13 (by first | assumption | exact ⟨by decide, rfl⟩) (by first | assumption | rfl) ?_
      refine V_iconst (v := 0) dX11_weakOf_16 (by decide) ?_
      refine V_ial dX11_weakOf_17 (by first | assumption | exact ⟨by decide, rfl⟩) (show ix _ 0 _ from ⟨rfl, by decide⟩) ?_
      refine V_ishl dX11_weakOf_18 ?_
      refine V_icmp_ge_f (tgt := 65) dX11_weakOf_19 (by decide) (by rw [hM1.n0, shl1 (by omega)]; exact nI_ge hs (by omega)) ?_
      refine V_iload_n dX11_weakOf_22 rfl rfl ?_
      refine V_cS1i (M' := M_X11_bits) (d' := 1) dX11_weakOf_23 (Or.inl ml_X11_285) kb_X11_bits (by first | decide | omega) (by simp [Value.category]) ⟨by decide, by decide⟩ ?_
      refine mr_bits (by omega) ⟨_, rfl, ?_⟩
      have no : wk K k s = false → ∀ I2 J2, FrW I I2 → FJ J J2 → I2 70 39 = I1 70 39 → V E 5 M_X11_weakOf Post 59 [some (.ref 70), some (.int (nI k)), some (.int (nI (fb_ct (wk K k) s))), some (.int (nI s))] [] NC 0 0 I2 J2 (RR co dr cc a1 a2) := by
        intro hw I2 J2 f2 j2 h2
        refine V_iinc_3 (w := 1) dX11_weakOf_59 (by decide) (by decide) rfl (V_goto (tgt := 10) dX11_weakOf_62 (by decide) ?_)
        rw [nI_1]
        have ec : fb_ct (wk K k) (s + 1) = fb_ct (wk K k) s := by rw [fb_ct_succ, hw]; rfl
        have en : nthf (wk K k) (s + 1) 0 = nthf (wk K k) s 0 := by
          rw [nthf, if_neg (by rw [hw]; simp)]
        have h9 := ih I2 J2 f2 j2 (by rw [ec, en, h2]; exact h39)
        rw [ec] at h9
        exact h9
      have hp10 := pop_le s
      by_cases hpk : pop s = k
      · refine V_iload_n dX11_weakOf_26 rfl rfl ?_
        refine V_icmp_ne_f (tgt := 59) dX11_weakOf_27 (by decide) (by rw [hpk]) ?_
        refine V_aload_n dX11_weakOf_30 rfl rfl (V_iload_n dX11_weakOf_31 rfl rfl (V_iconst (v := 0) dX11_weakOf_32 (by decide) (V_iconst (v := 0) dX11_weakOf_33 (by decide) ?_)))
        refine V_cV3i (M' := M_X11_cast) (d' := 4) dX11_weakOf_34 (Or.inl ml_X11_235) kb_X11_cast (by first | assumption | exact ⟨by decide, rfl⟩) (by first | decide | omega) (by simp [Value.category]) ⟨by decide, by decide⟩ ?_
        refine mr_cast (all := false) (cut := 0) hB hM1 (f1.MR hR) (f1.MDX hD) hDB (by omega) (by decide) (fun _ I2 J2 g1 g2 => ⟨_, rfl, ?_⟩) (fun z => by cases z)
        have f2 : FrW I I2 := f1.trans g1.W
        have j2 : FJ J J2 := j1.trans g2
        have e39 : I2 70 39 = I1 70 39 := g1 _ _ (by omega) (by omega) (by omega) (by omega)
        cases hm : metB K s 0
        · have hw : wk K k s = true := by unfold wk; rw [hm, decide_eq_true hpk]; rfl
          have ec : fb_ct (wk K k) (s + 1) = fb_ct (wk K k) s + 1 := by rw [fb_ct_succ, hw]; rfl
          by_cases h0 : fb_ct (wk K k) s = 0
          · refine V_if_ne_f (tgt := 59) dX11_weakOf_37 (by decide) (rfl) ?_
            refine V_aload_n dX11_weakOf_40 rfl rfl (V_iload_n dX11_weakOf_41 rfl rfl ?_)
            refine V_if_ne_f (tgt := 49) dX11_weakOf_42 (by decide) (by rw [h0]; rfl) ?_
            refine V_iload_n dX11_weakOf_45 rfl rfl (V_goto (tgt := 53) dX11_weakOf_46 (by decide) ?_)
            refine V_putI dX11_weakOf_53 fl_X11_282 (by first | assumption | exact ⟨by decide, rfl⟩) ?_
            refine V_iinc_2 (w := 1) dX11_weakOf_56 (by decide) (by decide) rfl (V_iinc_3 (w := 1) dX11_weakOf_59 (by decide) (by decide) rfl (V_goto (tgt := 10) dX11_weakOf_62 (by decide) ?_))
            rw [nI_1, nI_1]
            have h9 := ih (up2 I2 70 39 (nI s)) J2 (f2.trans (fun x y a b c e => u2n (by omega))) j2 (by rw [u2e, ec, if_neg (by omega), nthf_0 h0 hw])
            rw [ec] at h9
            exact h9
          · refine V_if_ne_f (tgt := 59) dX11_weakOf_37 (by decide) (rfl) ?_
            refine V_aload_n dX11_weakOf_40 rfl rfl (V_iload_n dX11_weakOf_41 rfl rfl ?_)
            refine V_if_ne_t (tgt := 49) dX11_weakOf_42 (by decide) (by rw [← nI_0]; exact fun z => h0 ((nI_eq (by omega) (by omega)).mp z)) ?_
            refine V_aload_n dX11_weakOf_49 rfl rfl ?_
            refine V_getI dX11_weakOf_50 fl_X11_282 (by first | assumption | exact ⟨by decide, rfl⟩) ?_
            refine V_putI dX11_weakOf_53 fl_X11_282 (by first | assumption | exact ⟨by decide, rfl⟩) ?_
            refine V_iinc_2 (w := 1) dX11_weakOf_56 (by decide) (by decide) rfl (V_iinc_3 (w := 1) dX11_weakOf_59 (by decide) (by decide) rfl (V_goto (tgt := 10) dX11_weakOf_62 (by decide) ?_))
            rw [nI_1, nI_1, up2_id]
            have en : nthf (wk K k) (s + 1) 0 = nthf (wk K k) s 0 := by
              rw [nthf, if_neg (fun z => h0 z.2)]
            have h9 := ih I2 J2 f2 j2 (by rw [e39, h39, ec, en, if_neg h0, if_neg (by omega)])
            rw [ec] at h9
            exact h9
        · refine V_if_ne_t (tgt := 59) dX11_weakOf_37 (by decide) (by decide) ?_
          exact no (by unfold wk; rw [hm]; simp) I2 J2 f2 j2 e39
      · refine V_iload_n dX11_weakOf_26 rfl rfl ?_
        refine V_icmp_ne_t (tgt := 59) dX11_weakOf_27 (by decide) (fun z => hpk ((nI_eq (by omega) (by omega)).mp z)) ?_
        exact no (by unfold wk; rw [decide_eq_false hpk]; rfl) I1 J1 f1 j1 rfl
  exact key 0 (Nat.zero_le _) _ J (fun x y a b c e => u2n (by omega)) FJ.refl u2e
end
section
variable {E : En} {I : TI} {J : TJ} {co dr : Nat} {cc a1 a2 : Option Nat} {Post : PT} {t : Nat → Nat} {len : Nat} {K : KT} {D D1 D2 : Di} {kp : Nat} {tl : Nat → Int32} {d : Nat}
theorem FrW.MS {I' : TI} (g : FrW I I') (h : MS t len K D D1 D2 kp tl I) : MS t len K D D1 D2 kp tl I' := h.sc (fun x y a b => g x y (by omega) (by omega) (by omega) (by omega)) (g _ _ (by omega) (by omega) (by omega) (by omega)) (g _ _ (by omega) (by omega) (by omega) (by omega))
theorem in_K {x : Int32} : decide ((1 : Int64).toInt ≤ x.toInt64.toInt ∧ x.toInt64.toInt ≤ (2 : Int64).toInt) = kI x := in_C (u := 1) (v := 2) (by decide) (by decide)
theorem rop_weak (hd : 6 ≤ d) (hDB : DB D.1 D.2.1) (h : MS t len K D D1 D2 kp tl I) {k w : Int32} : Cal E d M_X11_weak [.ref 70, .int k, .int w] NC I J (RR co dr cc a1 a2) (MK t len K D D1 D2 kp tl (some (.int (a_weak K k w))) I J (RR co dr cc a1 a2)) := by
  have h' := h
  obtain ⟨hB, hM, hR, hT, hD⟩ := h
  refine Cal_of kn_X11_weak rfl (Nat.le_of_ble_eq_true rfl) ?_
  refine V_iload_n dX11_weak_0 rfl rfl (V_i2l dX11_weak_1 (V_lconst (v := 1) dX11_weak_2 rfl (V_ldc2_w dX11_weak_3 ct_X11_288 ?_)))
  refine V_cS3i (M' := M_X11_in) (d' := 1) dX11_weak_6 (Or.inl ml_X11_124) kb_X11_in (by first | decide | omega) (by simp [Value.category]) ⟨by decide, by decide⟩ ?_
  refine mr_in ⟨_, rfl, ?_⟩
  rw [in_K]
  cases hv : kI k
  · refine V_if_eq_t (tgt := 22) dX11_weak_9 (by decide) (rfl) ?_
    refine V_iconst (v := (-1)) dX11_weak_22 (by decide) ?_
    refine V_ireturn dX11_weak_23 rfl rfl rfl (by decide) (by decide) ?_
    rw [a_weak, hv]; exact MK.same h'
  · obtain ⟨p1, p2⟩ := kI_cl hv
    refine V_if_eq_f (tgt := 22) dX11_weak_9 (by decide) (by decide) ?_
    refine V_iload_n dX11_weak_12 rfl rfl (V_i2l dX11_weak_13 (V_lconst (v := 0) dX11_weak_14 rfl (V_lconst (v := 1) dX11_weak_15 rfl ?_)))
    refine V_cS3i (M' := M_X11_in) (d' := 1) dX11_weak_16 (Or.inl ml_X11_124) kb_X11_in (by first | decide | omega) (by simp [Value.category]) ⟨by decide, by decide⟩ ?_
    refine mr_in ⟨_, rfl, ?_⟩
    rw [in_01]
    cases hw : inR w 2
    · refine V_if_ne_f (tgt := 24) dX11_weak_19 (by decide) (rfl) ?_
      refine V_iconst (v := (-1)) dX11_weak_22 (by decide) ?_
      refine V_ireturn dX11_weak_23 rfl rfl rfl (by decide) (by decide) ?_
      rw [a_weak, hv, hw]; exact MK.same h'
    · obtain ⟨q1, q2⟩ := inR_cl hw (by omega)
      refine V_if_ne_t (tgt := 24) dX11_weak_19 (by decide) (by decide) ?_
      refine V_aload_n dX11_weak_24 rfl rfl (V_iload_n dX11_weak_25 rfl rfl ?_)
      refine V_cV1i (M' := M_X11_weakOf) (d' := 5) dX11_weak_26 (Or.inl ml_X11_290) kb_X11_weakOf (by first | assumption | exact ⟨by decide, rfl⟩) (by first | decide | omega) (by simp [Value.category]) ⟨by decide, by decide⟩ ?_
      rw [show [Value.ref 70, Value.int k] = [Value.ref 70, Value.int (nI (cl k))] by rw [← p2]]
      refine mr_weakOf hB hM hR hD.1 hDB (by omega) (fun I1 J1 g1 g2 g3 => ⟨_, rfl, ?_⟩)
      rw [a_weak, hv, hw]
      have fin : ∀ v, MK t len K D D1 D2 kp tl (some (.int v)) I J (RR co dr cc a1 a2) (some (.int v)) NC I1 J1 (RR co dr cc a1 a2) := fun v => ⟨rfl, rfl, rfl, g1.MS h', g1.lo, g2.mk⟩
      by_cases hz : cl w = 0
      · refine V_istore_3 dX11_weak_29 (by decide) rfl (V_iload_n dX11_weak_30 rfl rfl ?_)
        refine V_if_ne_f (tgt := 38) dX11_weak_31 (by decide) (by rw [q2, hz]; rfl) ?_
        refine V_iload_n dX11_weak_34 rfl rfl (V_goto (tgt := 42) dX11_weak_35 (by decide) ?_)
        refine V_ireturn dX11_weak_42 rfl rfl rfl (by decide) (by decide) ?_
        rw [hz]; exact fin _
      · refine V_istore_3 dX11_weak_29 (by decide) rfl (V_iload_n dX11_weak_30 rfl rfl ?_)
        refine V_if_ne_t (tgt := 38) dX11_weak_31 (by decide) (by rw [q2, ← nI_0]; exact fun z => hz ((nI_eq (by omega) (by omega)).mp z)) ?_
        refine V_aload_n dX11_weak_38 rfl rfl ?_
        refine V_getI dX11_weak_39 fl_X11_282 (by first | assumption | exact ⟨by decide, rfl⟩) ?_
        refine V_ireturn dX11_weak_42 rfl rfl rfl (by decide) (by decide) ?_
        rw [g3]
        show MK t len K D D1 D2 kp tl (some (.int (if cl w = 0 then _ else _))) I J (RR co dr cc a1 a2) _ NC I1 J1 (RR co dr cc a1 a2)
        rw [if_neg hz]
        by_cases hW : wW K (cl k) = 0
        · rw [if_pos hW, if_neg (by omega)]; exact fin _
        · rw [if_neg hW, if_pos (by omega)]; exact fin _
theorem rop_cuts (hd : 5 ≤ d) (hDB : DB D.1 D.2.1) (h : MS t len K D D1 D2 kp tl I) {off w : Int32} : Cal E d M_X11_cuts [.ref 70, .int off, .int w] NC I J (RR co dr cc a1 a2) (MK t len K D D1 D2 kp tl (some (.int (a_cuts K off w))) I J (RR co dr cc a1 a2)) := by
  have h' := h
  obtain ⟨hB, hM, hR, hT, hD⟩ := h
  have hP := hB.1.1
  have hQ := hB.1.2.1
  have hcm := cutM_lt K
  have hqw : 2 ^ K 0 1 ≤ 256 := Nat.pow_le_pow_right (n := 2) (by decide) hQ
  have e1 : (1 : Int32) = nI 1 := rfl
  refine Cal_of kn_X11_cuts rfl (Nat.le_of_ble_eq_true rfl) ?_
  refine V_aload_n dX11_cuts_0 rfl rfl (V_iload_n dX11_cuts_1 rfl rfl ?_)
  refine V_cV1i (M' := M_X11_isOff) (d' := 2) dX11_cuts_2 (Or.inl ml_X11_229) kb_X11_isOff (by first | assumption | exact ⟨by decide, rfl⟩) (by first | decide | omega) (by simp [Value.category]) ⟨by decide, by decide⟩ ?_
  refine mr_isOff hM.n0 hP ⟨_, rfl, ?_⟩
  cases hv : inR off (2 ^ K 0 0)
  · refine V_if_eq_t (tgt := 18) dX11_cuts_5 (by decide) (rfl) ?_
    refine V_iconst (v := (-1)) dX11_cuts_18 (by decide) ?_
    refine V_ireturn dX11_cuts_19 rfl rfl rfl (by decide) (by decide) ?_
    rw [a_cuts, hv]; exact MK.same h'
  · obtain ⟨q1, q2⟩ := inR_cl hv (Nat.pow_lt_pow_right (by decide) (by omega))
    have hoff := pw31 hP q1
    refine V_if_eq_f (tgt := 18) dX11_cuts_5 (by decide) (by decide) ?_
    refine V_iload_n dX11_cuts_8 rfl rfl (V_i2l dX11_cuts_9 (V_lconst (v := 0) dX11_cuts_10 rfl (V_lconst (v := 1) dX11_cuts_11 rfl ?_)))
    refine V_cS3i (M' := M_X11_in) (d' := 1) dX11_cuts_12 (Or.inl ml_X11_124) kb_X11_in (by first | decide | omega) (by simp [Value.category]) ⟨by decide, by decide⟩ ?_
    refine mr_in ⟨_, rfl, ?_⟩
    rw [in_01]
    cases hw : inR w 2
    · refine V_if_ne_f (tgt := 20) dX11_cuts_15 (by decide) (rfl) ?_
      refine V_iconst (v := (-1)) dX11_cuts_18 (by decide) ?_
      refine V_ireturn dX11_cuts_19 rfl rfl rfl (by decide) (by decide) ?_
      rw [a_cuts, hv, hw]; exact MK.same h'
    · obtain ⟨p1, p2⟩ := inR_cl hw (by omega)
      have hans : a_cuts K off w = match ccut K (cl off) (2 ^ K 0 1) with | none => -4 | some s => if cl w = 0 then nI s else nI (lsum K s) := by rw [a_cuts, hv, hw]; rfl
      have htop : ccut K (cl off) (2 ^ K 0 1) = ccut K (cl off) (cutM K + 1) := by
        rw [show 2 ^ K 0 1 = cutM K + 1 + (2 ^ K 0 1 - (cutM K + 1)) by omega, ccut_top]
      rw [htop] at hans
      rw [hans]
      clear hans
      refine V_if_ne_t (tgt := 20) dX11_cuts_15 (by decide) (by decide) ?_
      refine V_iconst (v := 0) dX11_cuts_20 (by decide) (V_istore_3 dX11_cuts_21 (by decide) rfl (V_iconst (v := 0) dX11_cuts_22 (by decide) (V_istore_4 dX11_cuts_23 (by decide) rfl ?_)))
      have key1 : ∀ k, k ≤ K 0 1 → V E d M_X11_cuts (MK t len K D D1 D2 kp tl (some (.int (match ccut K (cl off) (cutM K + 1) with | none => -4 | some s => if cl w = 0 then nI s else nI (lsum K s)))) I J (RR co dr cc a1 a2)) 25 [some (.ref 70), some (.int off), some (.int w), some (.int (nI (mk (fun i => decide (K 8 i = 1)) k))), some (.int (nI k)), none] [] NC 0 0 I J (RR co dr cc a1 a2) := by
        refine loop_up (K 0 1) ?_ ?_
        · refine V_iload dX11_cuts_25 rfl (V_aload_n dX11_cuts_27 rfl rfl ?_)
          refine V_getR dX11_cuts_28 fl_X11_22 (by first | assumption | exact ⟨by decide, rfl⟩) (by first | assumption | rfl) ?_
          refine V_iconst (v := 0) dX11_cuts_31 (by decide) ?_
          refine V_ial dX11_cuts_32 (by first | assumption | exact ⟨by decide, rfl⟩) (show ix _ 0 _ from ⟨rfl, by decide⟩) ?_
          refine V_icmp_ge_t (tgt := 64) dX11_cuts_33 (by decide) (by rw [hM.n1]; exact nI_le (by omega) (by omega)) ?_
          refine V_bipush (v := (-4)) dX11_cuts_64 (by decide) (V_istore_4 dX11_cuts_66 (by decide) rfl (V_iconst (v := 0) dX11_cuts_68 (by decide) (V_istore_5 dX11_cuts_69 (by decide) rfl ?_)))
          have key2 : ∀ s, s ≤ cutM K + 1 → ∀ I1 J1, FrC I I1 → FJ J J1 → V E d M_X11_cuts (MK t len K D D1 D2 kp tl (some (.int (match ccut K (cl off) (cutM K + 1) with | none => -4 | some s => if cl w = 0 then nI s else nI (lsum K s)))) I J (RR co dr cc a1 a2)) 71 [some (.ref 70), some (.int off), some (.int w), some (.int (nI (cutM K))), some (.int (onI (ccut K (cl off) s))), some (.int (nI s))] [] NC 0 0 I1 J1 (RR co dr cc a1 a2) := by
            refine loop_up (cutM K + 1) ?_ ?_
            · intro I1 J1 f1 j1
              have fin : ∀ v, MK t len K D D1 D2 kp tl (some (.int v)) I J (RR co dr cc a1 a2) (some (.int v)) NC I1 J1 (RR co dr cc a1 a2) := fun v => ⟨rfl, rfl, rfl, f1.MS h', f1.lo, j1.mk⟩
              cases hc : ccut K (cl off) (cutM K + 1) with
              | none =>
                refine V_iload dX11_cuts_71 rfl (V_iload_n dX11_cuts_73 rfl rfl ?_)
                refine V_icmp_gt_t (tgt := 127) dX11_cuts_74 (by decide) (nI_lt (by omega) (by omega)) ?_
                refine V_iload dX11_cuts_127 rfl ?_
                refine V_if_ge_f (tgt := 137) dX11_cuts_129 (by decide) (by decide) ?_
                refine V_bipush (v := (-4)) dX11_cuts_132 (by decide) (V_goto (tgt := 152) dX11_cuts_134 (by decide) ?_)
                refine V_ireturn dX11_cuts_152 rfl rfl rfl (by decide) (by decide) ?_
                exact fin _
              | some f =>
                have hf := ccut_lt _ _ _ _ hc
                by_cases hz : cl w = 0
                · refine V_iload dX11_cuts_71 rfl (V_iload_n dX11_cuts_73 rfl rfl ?_)
                  refine V_icmp_gt_t (tgt := 127) dX11_cuts_74 (by decide) (nI_lt (by omega) (by omega)) ?_
                  refine V_iload dX11_cuts_127 rfl ?_
                  refine V_if_ge_t (tgt := 137) dX11_cuts_129 (by decide) (nI_pos' (by omega)) ?_
                  refine V_iload_n dX11_cuts_137 rfl rfl ?_
                  refine V_if_ne_f (tgt := 146) dX11_cuts_138 (by decide) (by rw [p2, hz]; rfl) ?_
                  refine V_iload dX11_cuts_141 rfl (V_goto (tgt := 152) dX11_cuts_143 (by decide) ?_)
                  refine V_ireturn dX11_cuts_152 rfl rfl rfl (by decide) (by decide) ?_
                  show MK t len K D D1 D2 kp tl (some (.int (if cl w = 0 then nI f else nI (lsum K f)))) I J (RR co dr cc a1 a2) (some (.int (nI f))) NC I1 J1 (RR co dr cc a1 a2)
                  rw [if_pos hz]; exact fin _
                · refine V_iload dX11_cuts_71 rfl (V_iload_n dX11_cuts_73 rfl rfl ?_)
                  refine V_icmp_gt_t (tgt := 127) dX11_cuts_74 (by decide) (nI_lt (by omega) (by omega)) ?_
                  refine V_iload dX11_cuts_127 rfl ?_
                  refine V_if_ge_t (tgt := 137) dX11_cuts_129 (by decide) (nI_pos' (by omega)) ?_
                  refine V_iload_n dX11_cuts_137 rfl rfl ?_
                  refine V_if_ne_t (tgt := 146) dX11_cuts_138 (by decide) (by rw [p2, ← nI_0]; exact fun z => hz ((nI_eq (by omega) (by omega)).mp z)) ?_
                  refine V_aload_n dX11_cuts_146 rfl rfl (V_iload dX11_cuts_147 rfl ?_)
                  refine V_cV1i (M' := M_X11_linesIn) (d' := 2) dX11_cuts_149 (Or.inl ml_X11_241) kb_X11_linesIn (by first | assumption | exact ⟨by decide, rfl⟩) (by first | decide | omega) (by simp [Value.category]) ⟨by decide, by decide⟩ ?_
                  refine mr_linesIn hB (f1.MB hB hM) (by omega) ⟨_, rfl, ?_⟩
                  refine V_ireturn dX11_cuts_152 rfl rfl rfl (by decide) (by decide) ?_
                  show MK t len K D D1 D2 kp tl (some (.int (if cl w = 0 then nI f else nI (lsum K f)))) I J (RR co dr cc a1 a2) (some (.int (nI (lsum K f)))) NC I1 J1 (RR co dr cc a1 a2)
                  rw [if_neg hz]; exact fin _
            · intro s hs ih I1 J1 f1 j1
              have hM1 := f1.MB hB hM
              have hle := lsum_le hB s
              have hlt : ¬ nI (cutM K) < nI s := by rw [lit_lt (by omega) (by omega)]; omega
              have no : ccut K (cl off) (s + 1) = ccut K (cl off) s → ∀ I2 J2, FrC I I2 → FJ J J2 → V E d M_X11_cuts (MK t len K D D1 D2 kp tl (some (.int (match ccut K (cl off) (cutM K + 1) with | none => -4 | some s => if cl w = 0 then nI s else nI (lsum K s)))) I J (RR co dr cc a1 a2)) 121 [some (.ref 70), some (.int off), some (.int w), some (.int (nI (cutM K))), some (.int (onI (ccut K (cl off) s))), some (.int (nI s))] [] NC 0 0 I2 J2 (RR co dr cc a1 a2) := by
                intro he I2 J2 f2 j2
                refine V_iinc_5 (w := 1) dX11_cuts_121 (by decide) (by decide) rfl (V_goto (tgt := 71) dX11_cuts_124 (by decide) ?_)
                rw [nI_1, ← he]
                exact ih I2 J2 f2 j2
              by_cases ha : andn s (cutM K) = 0
              · have na : nI s &&& (nI (cutM K) ^^^ -1) = 0 := by rw [andn_nI, ha]; rfl
                have t106 : (∀ f, ccut K (cl off) s = some f → lsum K s < lsum K f) → V E d M_X11_cuts (MK t len K D D1 D2 kp tl (some (.int (match ccut K (cl off) (cutM K + 1) with | none => -4 | some s => if cl w = 0 then nI s else nI (lsum K s)))) I J (RR co dr cc a1 a2)) 106 [some (.ref 70), some (.int off), some (.int w), some (.int (nI (cutM K))), some (.int (onI (ccut K (cl off) s))), some (.int (nI s))] [] NC 0 0 I1 J1 (RR co dr cc a1 a2) := by
                  intro hall
                  refine V_aload_n dX11_cuts_106 rfl rfl (V_iload_n dX11_cuts_107 rfl rfl (V_iload dX11_cuts_108 rfl (V_iconst (v := 0) dX11_cuts_110 (by decide) ?_)))
                  refine V_cV3i (M' := M_X11_cast) (d' := 4) dX11_cuts_111 (Or.inl ml_X11_235) kb_X11_cast (by first | assumption | exact ⟨by decide, rfl⟩) (by first | decide | omega) (by simp [Value.category]) ⟨by decide, by decide⟩ ?_
                  rw [show [Value.ref 70, Value.int off, Value.int (nI s), Value.int 0] = [Value.ref 70, Value.int (nI (cl off)), Value.int (nI s), Value.int (b2i false)] by rw [← q2]; rfl]
                  refine mr_cast (all := false) hB hM1 (f1.MR hR) (f1.MDX hD.1) hDB hoff (by omega) (fun _ I2 J2 g1 g2 => ⟨_, rfl, ?_⟩) (fun z => by cases z)
                  have f2 := f1.trans g1
                  have j2 : FJ J J2 := j1.trans g2
                  cases hm : metB K (cl off) s
                  · refine V_if_eq_t (tgt := 121) dX11_cuts_114 (by decide) (rfl) ?_
                    exact no (by rw [ccut, if_neg (fun z => by rw [hm] at z; exact absurd z.2.2 (by decide))]) I2 J2 f2 j2
                  · refine V_if_eq_f (tgt := 121) dX11_cuts_114 (by decide) (by decide) ?_
                    refine V_iload dX11_cuts_117 rfl (V_istore_4 dX11_cuts_119 (by decide) rfl (V_iinc_5 (w := 1) dX11_cuts_121 (by decide) (by decide) rfl (V_goto (tgt := 71) dX11_cuts_124 (by decide) ?_)))
                    rw [nI_1]
                    have he : ccut K (cl off) (s + 1) = some s := by rw [ccut, if_pos ⟨ha, hall, hm⟩]
                    have h9 := ih I2 J2 f2 j2
                    rw [he] at h9
                    exact h9
                cases hc : ccut K (cl off) s with
                | none =>
                  rw [hc] at t106
                  refine V_iload dX11_cuts_71 rfl (V_iload_n dX11_cuts_73 rfl rfl ?_)
                  refine V_icmp_gt_f (tgt := 127) dX11_cuts_74 (by decide) (hlt) ?_
                  refine V_iload dX11_cuts_77 rfl (V_iload_n dX11_cuts_79 rfl rfl (V_iconst (v := (-1)) dX11_cuts_80 (by decide) (V_ixor dX11_cuts_81 (V_iand dX11_cuts_82 ?_))))
                  refine V_if_ne_f (tgt := 121) dX11_cuts_83 (by decide) (na) ?_
                  refine V_iload dX11_cuts_86 rfl ?_
                  refine V_if_lt_t (tgt := 106) dX11_cuts_88 (by decide) (by decide) ?_
                  exact t106 (fun f z => by cases z)
                | some f =>
                  rw [hc] at t106 no
                  have hf := ccut_lt _ _ _ _ hc
                  have hle2 := lsum_le hB f
                  refine V_iload dX11_cuts_71 rfl (V_iload_n dX11_cuts_73 rfl rfl ?_)
                  refine V_icmp_gt_f (tgt := 127) dX11_cuts_74 (by decide) (hlt) ?_
                  refine V_iload dX11_cuts_77 rfl (V_iload_n dX11_cuts_79 rfl rfl (V_iconst (v := (-1)) dX11_cuts_80 (by decide) (V_ixor dX11_cuts_81 (V_iand dX11_cuts_82 ?_))))
                  refine V_if_ne_f (tgt := 121) dX11_cuts_83 (by decide) (na) ?_
                  refine V_iload dX11_cuts_86 rfl ?_
                  refine V_if_lt_f (tgt := 106) dX11_cuts_88 (by decide) (nI_nn (by omega)) ?_
                  refine V_aload_n dX11_cuts_91 rfl rfl (V_iload dX11_cuts_92 rfl ?_)
                  refine V_cV1i (M' := M_X11_linesIn) (d' := 2) dX11_cuts_94 (Or.inl ml_X11_241) kb_X11_linesIn (by first | assumption | exact ⟨by decide, rfl⟩) (by first | decide | omega) (by simp [Value.category]) ⟨by decide, by decide⟩ ?_
                  refine mr_linesIn hB hM1 (by omega) ⟨_, rfl, ?_⟩
                  refine V_aload_n dX11_cuts_97 rfl rfl (V_iload dX11_cuts_98 rfl ?_)
                  refine V_cV1i (M' := M_X11_linesIn) (d' := 2) dX11_cuts_100 (Or.inl ml_X11_241) kb_X11_linesIn (by first | assumption | exact ⟨by decide, rfl⟩) (by first | decide | omega) (by simp [Value.category]) ⟨by decide, by decide⟩ ?_
                  refine mr_linesIn hB hM1 (by omega) ⟨_, rfl, ?_⟩
                  by_cases hl : lsum K s < lsum K f
                  · refine V_icmp_ge_f (tgt := 121) dX11_cuts_103 (by decide) (nI_ge hl (by omega)) ?_
                    exact t106 (fun f' z => by cases z; exact hl)
                  · refine V_icmp_ge_t (tgt := 121) dX11_cuts_103 (by decide) (nI_le (by omega) (by omega)) ?_
                    refine no ?_ I1 J1 f1 j1
                    rw [ccut, if_neg (fun z => hl (z.2.1 f hc))]; exact hc
              · have hal : andn s (cutM K) < 2 ^ 8 := andn_lt (by omega)
                refine V_iload dX11_cuts_71 rfl (V_iload_n dX11_cuts_73 rfl rfl ?_)
                refine V_icmp_gt_f (tgt := 127) dX11_cuts_74 (by decide) (hlt) ?_
                refine V_iload dX11_cuts_77 rfl (V_iload_n dX11_cuts_79 rfl rfl (V_iconst (v := (-1)) dX11_cuts_80 (by decide) (V_ixor dX11_cuts_81 (V_iand dX11_cuts_82 ?_))))
                refine V_if_ne_t (tgt := 121) dX11_cuts_83 (by decide) (by rw [andn_nI, ← nI_0]; exact fun z => ha ((nI_eq (by omega) (by omega)).mp z)) ?_
                exact no (by rw [ccut, if_neg (fun z => ha z.1)]) I1 J1 f1 j1
          exact key2 0 (Nat.zero_le _) I J FrC.refl FJ.refl
        · intro k hk ih
          have h8 := (hB.2.2.2.1 k hk).2.2.2.2
          by_cases hz : K 8 k = 1
          · refine V_iload dX11_cuts_25 rfl (V_aload_n dX11_cuts_27 rfl rfl ?_)
            refine V_getR dX11_cuts_28 fl_X11_22 (by first | assumption | exact ⟨by decide, rfl⟩) (by first | assumption | rfl) ?_
            refine V_iconst (v := 0) dX11_cuts_31 (by decide) ?_
            refine V_ial dX11_cuts_32 (by first | assumption | exact ⟨by decide, rfl⟩) (show ix _ 0 _ from ⟨rfl, by decide⟩) ?_
            refine V_icmp_ge_f (tgt := 64) dX11_cuts_33 (by decide) (by rw [hM.n1]; exact nI_ge hk (by omega)) ?_
            refine V_iload_n dX11_cuts_36 rfl rfl (V_aload_n dX11_cuts_37 rfl rfl ?_)
            refine V_getR dX11_cuts_38 fl_X11_34 (by first | assumption | exact ⟨by decide, rfl⟩) (by first | assumption | rfl) ?_
            refine V_iload dX11_cuts_41 rfl ?_
            refine V_ial dX11_cuts_43 (by first | assumption | exact ⟨by decide, rfl⟩) (show ix _ k 16 from ⟨rfl, by omega⟩) ?_
            refine V_iconst (v := 1) dX11_cuts_44 (by decide) ?_
            refine V_icmp_ne_f (tgt := 55) dX11_cuts_45 (by decide) (by rw [hM.cut hk, hz]; rfl) ?_
            refine V_iconst (v := 1) dX11_cuts_48 (by decide) (V_iload dX11_cuts_49 rfl (V_ishl dX11_cuts_51 (V_goto (tgt := 56) dX11_cuts_52 (by decide) (V_ior dX11_cuts_56 (V_istore_3 dX11_cuts_57 (by decide) rfl ?_)))))
            refine V_iinc_4 (w := 1) dX11_cuts_58 (by decide) (by decide) rfl (V_goto (tgt := 25) dX11_cuts_61 (by decide) ?_)
            rw [nI_1, mk_t (f := fun i => decide (K 8 i = 1)) (by omega) (by simp [hz])]
            exact ih
          · refine V_iload dX11_cuts_25 rfl (V_aload_n dX11_cuts_27 rfl rfl ?_)
            refine V_getR dX11_cuts_28 fl_X11_22 (by first | assumption | exact ⟨by decide, rfl⟩) (by first | assumption | rfl) ?_
            refine V_iconst (v := 0) dX11_cuts_31 (by decide) ?_
            refine V_ial dX11_cuts_32 (by first | assumption | exact ⟨by decide, rfl⟩) (show ix _ 0 _ from ⟨rfl, by decide⟩) ?_
            refine V_icmp_ge_f (tgt := 64) dX11_cuts_33 (by decide) (by rw [hM.n1]; exact nI_ge hk (by omega)) ?_
            refine V_iload_n dX11_cuts_36 rfl rfl (V_aload_n dX11_cuts_37 rfl rfl ?_)
            refine V_getR dX11_cuts_38 fl_X11_34 (by first | assumption | exact ⟨by decide, rfl⟩) (by first | assumption | rfl) ?_
            refine V_iload dX11_cuts_41 rfl ?_
            refine V_ial dX11_cuts_43 (by first | assumption | exact ⟨by decide, rfl⟩) (show ix _ k 16 from ⟨rfl, by omega⟩) ?_
            refine V_iconst (v := 1) dX11_cuts_44 (by decide) ?_
            refine V_icmp_ne_t (tgt := 55) dX11_cuts_45 (by decide) (by rw [hM.cut hk, e1]; exact fun z => hz ((nI_eq (by omega) (by omega)).mp z)) ?_
            refine V_iconst (v := 0) dX11_cuts_55 (by decide) (V_ior dX11_cuts_56 (V_istore_3 dX11_cuts_57 (by decide) rfl (V_iinc_4 (w := 1) dX11_cuts_58 (by decide) (by decide) rfl (V_goto (tgt := 25) dX11_cuts_61 (by decide) ?_))))
            rw [or0, nI_1, mk_f (f := fun i => decide (K 8 i = 1)) (by omega) (by simp [hz])]
            exact ih
      exact key1 0 (Nat.zero_le _)
end
