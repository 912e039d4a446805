/-! Understudies: survey, the best, the fewest for pairs -/
noncomputable def wW (K : KT) (k : Nat) : Nat := fb_ct (wk K k) (2 ^ K 0 0)
noncomputable def wkn (K : KT) (k w : Nat) : Nat := nthf (wk K k) (2 ^ K 0 0) w
noncomputable def hm (K : KT) (k c : Nat) : Nat := mk (fun w => hlp K (wkn K k w) (cvn K c)) (wW K k)
def SUR (J : TJ) (K : KT) (k : Nat) : Prop := ∀ c, c < ncv K → J 58 (80 * k + c) = lN (hm K k c)
def UNS (I : TI) (J : TJ) (K : KT) : Prop := ∃ m, m < 8 ∧ I 53 5 = nI m ∧ (m.testBit 1 = true → SUR J K 1) ∧ (m.testBit 2 = true → SUR J K 2)
noncomputable def wt (K : KT) (k t : Nat) : Nat := fb_ct (fun s => wk K k s && !hlp K s t) (2 ^ K 0 0)
noncomputable def eng (K : KT) (k : Nat) : Nat → Option (Nat × Nat)
  | 0 => none
  | c + 1 => match eng K k c with
    | none => some (cvn K c, wt K k (cvn K c))
    | some r => if wt K k (cvn K c) < r.2 then some (cvn K c, wt K k (cvn K c)) else some r
noncomputable def enB (K : KT) (c c' : Nat) : Bool := dcd (∀ w, w < wW K 2 → hlp K (wkn K 2 w) (cvn K c) = true ∨ hlp K (wkn K 2 w) (cvn K c') = true ∨ hlp2 K (wkn K 2 w) (cvn K c) (cvn K c') = true)
noncomputable def twoB (K : KT) : Bool := dcd (∃ c c', c < c' ∧ c' < ncv K ∧ enB K c c' = true)
noncomputable def oneB (K : KT) : Bool := dcd (∃ c, c < ncv K ∧ ∀ w, w < wW K 2 → hlp K (wkn K 2 w) (cvn K c) = true)
noncomputable def fewV (K : KT) : Int32 := if wW K 2 = 0 then 0 else if oneB K then 1 else if twoB K then 2 else -4
def TWO (I : TI) (K : KT) : Prop := I 53 6 = 0 ∨ (I 53 6 = 1 ∧ I 53 7 = b2i (twoB K))
theorem wW_le {K : KT} {k : Nat} (hB : KB K) (hk : k ≤ 2) : wW K k ≤ 45 := wk_ct K hk (by
  have hP := hB.1.1
  exact Nat.pow_le_pow_right (n := 2) (by decide) hP)
theorem wkn_lt {K : KT} {k w : Nat} (h : w < wW K k) : wkn K k w < 2 ^ K 0 0 := (nthf_ok h).1
theorem WKS.at {I : TI} {K : KT} {k w : Nat} (h : WKS I K k (2 ^ K 0 0)) (hw : w < wW K k) : I 52 w = nI (wkn K k w) := by
  obtain ⟨h1, h2, h3⟩ := nthf_ok hw
  have := h _ h1 h2
  rw [h3] at this
  exact this
theorem popL_hm (K : KT) {k : Nat} (hB : KB K) (hk : k ≤ 2) (c : Nat) : popL (hm K k c) + wt K k (cvn K c) = wW K k := by
  have hW := wW_le hB hk
  have e1 : popL (hm K k c) = fb_ct (fun w => hlp K (wkn K k w) (cvn K c)) (wW K k) := by
    unfold popL hm
    rw [show 64 = wW K k + (64 - wW K k) by omega, fb_ct_split]
    have z : fb_ct (fun i => (mk (fun w => hlp K (wkn K k w) (cvn K c)) (wW K k)).testBit (wW K k + i)) (64 - wW K k) = 0 := fb_ct_zero.mpr (fun i _ => by
      rw [mk_tb, decide_eq_false (by omega)]; rfl)
    rw [z, Nat.add_zero]
    refine fb_ct_cong (fun i hi => ?_)
    rw [mk_tb, decide_eq_true hi]; rfl
  have e2 : fb_ct (fun w => hlp K (wkn K k w) (cvn K c)) (wW K k) = fb_ct (fun s => wk K k s && hlp K s (cvn K c)) (2 ^ K 0 0) := nthf_ct (p := wk K k) (q := fun s => hlp K s (cvn K c)) (2 ^ K 0 0)
  rw [e1, e2]
  unfold wt wW
  rw [← fb_ct_or (fun s _ => by intro z; simp at z; rw [z.1.2] at z; simp at z)]
  refine fb_ct_cong (fun s _ => ?_)
  cases wk K k s <;> cases hlp K s (cvn K c) <;> rfl
theorem hm_lt (K : KT) {k : Nat} (hB : KB K) (hk : k ≤ 2) (c : Nat) : hm K k c < 2 ^ 45 := Nat.lt_of_lt_of_le (mk_lt _ _) (Nat.pow_le_pow_right (by decide) (wW_le hB hk))
def btL (x : Int64) (i : Nat) : Bool := x.toBitVec.getLsbD i
theorem bL_ext {x y : Int64} (h : ∀ i, i < 64 → btL x i = btL y i) : x = y := Int64.toBitVec_inj.mp (BitVec.eq_of_getLsbD_eq (fun i hi => h i hi))
theorem s_lL : ∀ w, w < 64 → (((nI w).toInt64 &&& 63).toBitVec.smod 64).toNat = w := by decide +kernel
theorem btL_lN (a : Nat) {i : Nat} (h : i < 64) : btL (lN a) i = a.testBit i := by
  unfold btL
  show (BitVec.ofNat 64 a).getLsbD i = _
  rw [BitVec.getLsbD_ofNat]
  simp [h]
theorem btL_1 : ∀ i, i < 64 → btL 1 i = decide (i = 0) := by decide +kernel
theorem bitL_lN {a w : Nat} (hw : w < 64) : (lN a >>> ((nI w).toInt64 &&& 63)) &&& 1 = if a.testBit w then 1 else 0 := by
  refine bL_ext (fun i hi => ?_)
  have e : btL ((lN a >>> ((nI w).toInt64 &&& 63)) &&& 1) i = (btL (lN a >>> ((nI w).toInt64 &&& 63)) i && btL 1 i) := by
    unfold btL; rw [Int64.toBitVec_and, BitVec.getLsbD_and]
  rw [e, btL_1 i hi]
  by_cases h0 : i = 0
  · subst h0
    have : btL (lN a >>> ((nI w).toInt64 &&& 63)) 0 = a.testBit w := by
      unfold btL
      rw [Int64.toBitVec_shiftRight]
      unfold BitVec.sshiftRight'
      rw [s_lL w hw, BitVec.getLsbD_sshiftRight, if_pos (by omega)]
      have := btL_lN a hw
      unfold btL at this
      simpa using this
    rw [this]
    cases a.testBit w <;> decide
  · rw [decide_eq_false h0, Bool.and_false]
    cases a.testBit w
    · exact ((by decide +kernel : ∀ i, i < 64 → false = btL 0 i) i hi)
    · show false = btL 1 i
      rw [btL_1 i hi, decide_eq_false h0]
theorem all_lN {W : Nat} (hW : W < 63) : (1 : Int64) <<< ((nI W).toInt64 &&& 63) - 1 = lN (2 ^ W - 1) := by
  rw [shl1L W hW]
  exact lN_sub (a := 2 ^ W) (b := 1) Nat.one_le_two_pow
theorem hm_all (K : KT) (c : Nat) : hm K 2 c = 2 ^ wW K 2 - 1 ↔ ∀ w, w < wW K 2 → hlp K (wkn K 2 w) (cvn K c) = true := by
  constructor
  · intro h w hw
    have := congrArg (fun x => x.testBit w) h
    rw [hm, mk_tb, Nat.testBit_two_pow_sub_one] at this
    simpa [hw] using this
  · intro h
    refine tb_ext (fun w => ?_)
    rw [hm, mk_tb, Nat.testBit_two_pow_sub_one]
    by_cases hw : w < wW K 2
    · simp [hw, h w hw]
    · simp [hw]
section
variable {E : En} {I : TI} {J : TJ} {co dr : Nat} {cc a1 a2 : Option Nat} {Post : PT} {e : Nat} {K : KT} {off : Nat}
theorem sp_survey {d k : Nat} (hd : 15 ≤ d) (he : e = 4 ∨ e = 18) (hB : KB K) (hX : CoX I e K) (hS : SX I e K) (hN : ANS I K) (hU : UNS I J K) (hk : k = 1 ∨ k = 2) (Kk : ∀ I' J' b1 b2, (∀ x y, (x < 48 ∨ 58 ≤ x ∨ (x = 53 ∧ y ≠ 3 ∧ y ≠ 5)) → I' x y = I x y) → (∀ x y, x ≠ 58 → J' x y = J x y) → ANS I' K → I' 48 3 = nI (wW K k) → WKS I' K k (2 ^ K 0 0) → I' 53 3 = nI (ncv K) → CVS I' K (8 * K 0 0) → SUR J' K k → UNS I' J' K → Post none NC I' J' (RR co dr cc b1 b2)) : Cal E d M_X9_survey [.ref 53, .ref e, .ref 48, .int (nI k)] NC I J (RR co dr cc a1 a2) Post := by
  have hP := hB.1.1
  have hpw : 2 ^ K 0 0 ≤ 1024 := Nat.pow_le_pow_right (n := 2) (by decide) hP
  have hn := ncv_le hB
  have hW := wW_le (K := K) (k := k) hB (by omega)
  refine Cal_of kn_X9_survey rfl (Nat.le_of_ble_eq_true rfl) ?_
  refine V_aload_n dX9_survey_0 rfl rfl (V_aload_n dX9_survey_1 rfl rfl (V_iload_n dX9_survey_2 rfl rfl ?_))
  refine V_cV2v (M' := M_X0_findWeak) (d' := 14) dX9_survey_3 (Or.inl ml_X9_37) kb_X0_findWeak (by first | assumption | exact ⟨by decide, rfl⟩) (by first | decide | omega) (by simp [Value.category]) ⟨by decide, by decide⟩ ?_
  refine sp_findWeak (by omega) he hB hX hS hN hk (fun I1 b1 g1 g2 g3 g4 => ⟨rfl, ?_⟩)
  have hX1 : CoX I1 e K := hX.of (fun x y q1 q2 => g1 x y (by omega) (by omega) (by omega) (by omega) (by omega))
  have hS1 : SX I1 e K := hS.of (fun b => ⟨g1 _ b (by omega) (by omega) (by omega) (by omega) (by omega), g1 _ b (by omega) (by omega) (by omega) (by omega) (by omega)⟩)
  refine V_aload_n dX9_survey_6 rfl rfl (V_aload_n dX9_survey_7 rfl rfl ?_)
  refine V_cV1v (M' := M_X9_listCovers) (d' := 3) dX9_survey_8 (Or.inl ml_X9_43) kb_X9_listCovers (by first | assumption | exact ⟨by decide, rfl⟩) (by first | decide | omega) (by simp [Value.category]) ⟨by decide, by decide⟩ ?_
  refine sp_listCovers (by omega) he hB hX1 hS1 (fun I2 m1 m2 m3 => ⟨rfl, ?_⟩)
  obtain ⟨m, hm8, hm5, hu1, hu2⟩ := hU
  have hX2 : CoX I2 e K := hX1.of (fun x y q1 q2 => m1 x y (by omega) (by omega) (by omega))
  have hS2 : SX I2 e K := hS1.of (fun b => ⟨m1 _ b (by omega) (by omega) (by omega), m1 _ b (by omega) (by omega) (by omega)⟩)
  have f5 : I2 53 5 = nI m := by rw [m1 _ _ (by omega) (by omega) (by omega), g1 _ _ (by omega) (by omega) (by omega) (by omega) (by omega)]; exact hm5
  have fr : ∀ x y, (x < 48 ∨ 58 ≤ x ∨ (x = 53 ∧ y ≠ 3 ∧ y ≠ 5)) → I2 x y = I x y := fun x y h => by
    rw [m1 x y (by omega) (by omega) (by omega), g1 x y (by omega) (by omega) (by omega) (by omega) (by omega)]
  have fN : ANS I2 K := g2.of (fun b => m1 _ _ (by omega) (by omega) (by omega))
  have f48 : I2 48 3 = nI (wW K k) := by rw [m1 _ _ (by omega) (by omega) (by omega)]; exact g3
  have fW : WKS I2 K k (2 ^ K 0 0) := fun s hs h => by rw [m1 _ _ (by omega) (by omega) (by omega)]; exact g4 s hs h
  refine V_aload_n dX9_survey_11 rfl rfl ?_
  refine V_getI dX9_survey_12 fl_X9_29 (by first | assumption | exact ⟨by decide, rfl⟩) ?_
  refine V_iload_n dX9_survey_15 rfl rfl ?_
  refine V_cS2i (M' := M_X10_has) (d' := 1) dX9_survey_16 (Or.inr ⟨_, ml_X9_47⟩) kb_X10_has (by first | decide | omega) (by simp [Value.category]) ⟨by decide, by decide⟩ ?_
  rw [f5]
  refine sp_has (by omega) (by omega) ⟨_, rfl, ?_⟩
  cases hv : m.testBit k
  · refine V_if_eq_t (tgt := 23) dX9_survey_19 (by decide) (rfl) ?_
    refine V_aload_n dX9_survey_23 rfl rfl (V_dup dX9_survey_24 rfl ?_)
    refine V_getI dX9_survey_25 fl_X9_29 (by first | assumption | exact ⟨by decide, rfl⟩) ?_
    refine V_iconst (v := 1) dX9_survey_28 (by decide) (V_iload_n dX9_survey_29 rfl rfl (V_ishl dX9_survey_30 (V_ior dX9_survey_31 ?_)))
    refine V_putI dX9_survey_32 fl_X9_29 (by first | assumption | exact ⟨by decide, rfl⟩) ?_
    refine V_iconst (v := 0) dX9_survey_35 (by decide) (V_istore_4 dX9_survey_36 (by decide) rfl ?_)
    rw [f5, shl1 (by omega), or_nI]
    have key : ∀ c, c ≤ ncv K → ∀ (I3 : TI) (J3 : TJ) (b2 : Option Nat) (o5 o7 : Option Value), (∀ x y, x ≠ 54 → x ≠ 55 → I3 x y = up2 I2 53 5 (nI (m ||| 2 ^ k)) x y) → (∀ x y, (x ≠ 58 ∨ y < 80 * k ∨ 80 * k + 80 ≤ y) → J3 x y = J x y) → (∀ c', c' < c → J3 58 (80 * k + c') = lN (hm K k c')) → V E d M_X9_survey Post 38 [some (.ref 53), some (.ref e), some (.ref 48), some (.int (nI k)), some (.int (nI c)), o5, none, o7] [] NC 0 0 I3 J3 (RR co dr cc b1 b2) := by
      refine loop_up _ ?_ ?_
      · intro I3 J3 b2 o5 o7 n1 n2 n3
        have q3 : I3 53 3 = nI (ncv K) := by rw [n1 _ _ (by omega) (by omega), u2n (by omega)]; exact m2
        refine V_iload dX9_survey_38 rfl (V_aload_n dX9_survey_40 rfl rfl ?_)
        refine V_getI dX9_survey_41 fl_X9_51 (by first | assumption | exact ⟨by decide, rfl⟩) ?_
        refine V_icmp_ge_t (tgt := 114) dX9_survey_44 (by decide) (by rw [q3]; exact nI_le (Nat.le_refl _) (by omega)) ?_
        refine V_return dX9_survey_114 rfl rfl (by decide) (by decide) ?_
        have other : ∀ k', k' = 1 ∨ k' = 2 → k' ≠ k → SUR J K k' → SUR J3 K k' := fun k' h1 h2 h c hc => by
          rw [n2 _ _ (by omega)]; exact h c hc
        refine Kk I3 J3 b1 b2 (fun x y h => ?_) (fun x y h => n2 x y (Or.inl h)) (fN.of (fun b => by rw [n1 _ _ (by omega) (by omega), u2n (by omega)])) (by rw [n1 _ _ (by omega) (by omega), u2n (by omega)]; exact f48) (fun s hs h => by rw [n1 _ _ (by omega) (by omega), u2n (by omega)]; exact fW s hs h) q3 (fun t ht h => by rw [n1 _ _ (by omega) (by omega), u2n (by omega), n1 _ _ (by omega) (by omega), u2n (by omega)]; exact m3 t ht h) n3 ⟨m ||| 2 ^ k, ?_, ?_, ?_, ?_⟩
        · rw [n1 x y (by omega) (by omega), u2n (by omega)]; exact fr x y h
        · exact Nat.or_lt_two_pow (n := 3) hm8 (by rcases hk with rfl | rfl <;> decide)
        · rw [n1 _ _ (by omega) (by omega), u2e]
        · intro h
          rcases hk with rfl | rfl
          · exact n3
          · refine other 1 (by omega) (by omega) (hu1 ?_)
            rw [fb_bit_set] at h
            simpa using h
        · intro h
          rcases hk with rfl | rfl
          · refine other 2 (by omega) (by omega) (hu2 ?_)
            rw [fb_bit_set] at h
            simpa using h
          · exact n3
      · intro c hc ih I3 J3 b2 o5 o7 n1 n2 n3
        have q3 : ∀ I4 : TI, (∀ x y, x ≠ 54 → x ≠ 55 → I4 x y = up2 I2 53 5 (nI (m ||| 2 ^ k)) x y) → I4 53 3 = nI (ncv K) ∧ I4 48 3 = nI (wW K k) ∧ WKS I4 K k (2 ^ K 0 0) ∧ CVS I4 K (8 * K 0 0) ∧ CoX I4 e K ∧ SX I4 e K := fun I4 n4 => by
          refine ⟨?_, ?_, fun s hs h => ?_, fun t ht h => ?_, hX2.of (fun x y q1 q2 => ?_), hS2.of (fun b => ⟨?_, ?_⟩)⟩
          · rw [n4 _ _ (by omega) (by omega), u2n (by omega)]; exact m2
          · rw [n4 _ _ (by omega) (by omega), u2n (by omega)]; exact f48
          · rw [n4 _ _ (by omega) (by omega), u2n (by omega)]; exact fW s hs h
          · rw [n4 _ _ (by omega) (by omega), u2n (by omega), n4 _ _ (by omega) (by omega), u2n (by omega)]; exact m3 t ht h
          · rw [n4 _ _ (by omega) (by omega), u2n (by omega)]
          · rw [n4 _ _ (by omega) (by omega), u2n (by omega)]
          · rw [n4 _ _ (by omega) (by omega), u2n (by omega)]
        refine V_iload dX9_survey_38 rfl (V_aload_n dX9_survey_40 rfl rfl ?_)
        refine V_getI dX9_survey_41 fl_X9_51 (by first | assumption | exact ⟨by decide, rfl⟩) ?_
        refine V_icmp_ge_f (tgt := 114) dX9_survey_44 (by decide) (by rw [(q3 I3 n1).1]; exact nI_ge hc (by omega)) ?_
        refine V_lconst (v := 0) dX9_survey_47 rfl (V_lstore_5 dX9_survey_48 (by decide) rfl (V_iconst (v := 0) dX9_survey_50 (by decide) (V_istore_7 dX9_survey_51 (by decide) rfl ?_)))
        have key2 : ∀ w, w ≤ wW K k → ∀ (I4 : TI) (b4 : Option Nat), (∀ x y, x ≠ 54 → x ≠ 55 → I4 x y = up2 I2 53 5 (nI (m ||| 2 ^ k)) x y) → V E d M_X9_survey Post 53 [some (.ref 53), some (.ref e), some (.ref 48), some (.int (nI k)), some (.int (nI c)), some (.long (lN (mk (fun w => hlp K (wkn K k w) (cvn K c)) w))), none, some (.int (nI w))] [] NC 0 0 I4 J3 (RR co dr cc b1 b4) := by
          refine loop_up _ ?_ ?_
          · intro I4 b4 n4
            obtain ⟨z1, z2, z3, z4, z5, z6⟩ := q3 I4 n4
            refine V_iload dX9_survey_53 rfl (V_aload_n dX9_survey_55 rfl rfl ?_)
            refine V_getI dX9_survey_56 fl_X9_54 (by first | assumption | exact ⟨by decide, rfl⟩) ?_
            refine V_icmp_ge_t (tgt := 94) dX9_survey_59 (by decide) (by rw [z2]; exact nI_le (Nat.le_refl _) (by omega)) ?_
            refine V_aload_n dX9_survey_94 rfl rfl ?_
            refine V_getR dX9_survey_95 fl_X9_25 (by first | assumption | exact ⟨by decide, rfl⟩) (by first | assumption | rfl) ?_
            refine V_iload_n dX9_survey_98 rfl rfl (V_bipush (v := 80) dX9_survey_99 (by decide) (V_imul dX9_survey_101 (V_iload dX9_survey_102 rfl (V_iadd dX9_survey_104 (V_lload dX9_survey_105 rfl ?_)))))
            refine V_las dX9_survey_107 (by first | assumption | exact ⟨by decide, rfl⟩) (show ix _ (80 * k + c) 240 from ⟨(by rw [show (80 : Int32) = nI 80 from rfl, pk_mul, nI_add, Nat.mul_comm]), by omega⟩) ?_
            refine V_iinc_4 (w := 1) dX9_survey_108 (by decide) (by decide) rfl (V_goto (tgt := 38) dX9_survey_111 (by decide) ?_)
            rw [nI_1]
            refine ih I4 _ b4 _ _ n4 (fun x y h => ?_) (fun c' hc' => ?_)
            · rw [u2n (by omega)]; exact n2 x y h
            · by_cases hcc : c' = c
              · subst hcc; rw [u2e]; rfl
              · rw [u2n (by omega)]; exact n3 c' (by omega)
          · intro w hw ih2 I4 b4 n4
            obtain ⟨z1, z2, z3, z4, z5, z6⟩ := q3 I4 n4
            have hwl := wkn_lt hw
            refine V_iload dX9_survey_53 rfl (V_aload_n dX9_survey_55 rfl rfl ?_)
            refine V_getI dX9_survey_56 fl_X9_54 (by first | assumption | exact ⟨by decide, rfl⟩) ?_
            refine V_icmp_ge_f (tgt := 94) dX9_survey_59 (by decide) (by rw [z2]; exact nI_ge hw (by omega)) ?_
            refine V_aload_n dX9_survey_62 rfl rfl (V_aload_n dX9_survey_63 rfl rfl (V_aload_n dX9_survey_64 rfl rfl ?_))
            refine V_getR dX9_survey_65 fl_X9_57 (by first | assumption | exact ⟨by decide, rfl⟩) (by first | assumption | rfl) ?_
            refine V_iload dX9_survey_68 rfl ?_
            refine V_ial dX9_survey_70 (by first | assumption | exact ⟨by decide, rfl⟩) (show ix _ w 45 from ⟨rfl, by omega⟩) ?_
            refine V_iload dX9_survey_71 rfl ?_
            refine V_cV3i (M' := M_X9_helps) (d' := 13) dX9_survey_73 (Or.inl ml_X9_60) kb_X9_helps (by first | assumption | exact ⟨by decide, rfl⟩) (by first | decide | omega) (by simp [Value.category]) ⟨by decide, by decide⟩ ?_
            rw [z3.at hw]
            refine sp_helps (by omega) he hB z5 z6 z4 hc (by omega) (fun I5 b5 y1 => ⟨_, rfl, ?_⟩)
            have n5 : ∀ x y, x ≠ 54 → x ≠ 55 → I5 x y = up2 I2 53 5 (nI (m ||| 2 ^ k)) x y := fun x y h1 h2 => by rw [y1 x y h1 h2]; exact n4 x y h1 h2
            cases hh : hlp K (wkn K k w) (cvn K c)
            · refine V_if_eq_t (tgt := 88) dX9_survey_76 (by decide) (rfl) ?_
              refine V_iinc_7 (w := 1) dX9_survey_88 (by decide) (by decide) rfl (V_goto (tgt := 53) dX9_survey_91 (by decide) ?_)
              rw [nI_1, mk_fL (f := fun w => hlp K (wkn K k w) (cvn K c)) hh]
              exact ih2 I5 b5 n5
            · refine V_if_eq_f (tgt := 88) dX9_survey_76 (by decide) (by decide) ?_
              refine V_lload dX9_survey_79 rfl (V_lconst (v := 1) dX9_survey_81 rfl (V_iload dX9_survey_82 rfl (V_lshl dX9_survey_84 (V_lor dX9_survey_85 (V_lstore_5 dX9_survey_86 (by decide) rfl ?_)))))
              refine V_iinc_7 (w := 1) dX9_survey_88 (by decide) (by decide) rfl (V_goto (tgt := 53) dX9_survey_91 (by decide) ?_)
              rw [nI_1, mk_tL (f := fun w => hlp K (wkn K k w) (cvn K c)) (by omega) hh]
              exact ih2 I5 b5 n5
        exact key2 0 (Nat.zero_le _) I3 b2 n1
    exact key 0 (Nat.zero_le _) _ J a2 _ _ (fun x y _ _ => rfl) (fun _ _ _ => rfl) (fun c' h => absurd h (by omega))
  · refine V_if_eq_f (tgt := 23) dX9_survey_19 (by decide) (by decide) ?_
    refine V_return dX9_survey_22 rfl rfl (by decide) (by decide) ?_
    have hs : SUR J K k := by
      rcases hk with rfl | rfl
      · exact hu1 hv
      · exact hu2 hv
    exact Kk I2 J b1 a2 fr (fun _ _ _ => rfl) fN f48 fW m2 m3 hs ⟨m, hm8, f5, hu1, hu2⟩
end
