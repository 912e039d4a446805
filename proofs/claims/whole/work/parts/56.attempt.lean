/-! The Attempt: whether there is a casting -/
def ush (x k : Int32) : Int32 := (x.toUInt32 >>> (k.toUInt32 &&& Int32.toUInt32 31)).toInt32
def bc1 (x : Int32) : Int32 := x - (ush x 1 &&& 1431655765)
def bc2 (x : Int32) : Int32 := (x &&& 858993459) + (ush x 2 &&& 858993459)
def bc3 (x : Int32) : Int32 := (x + ush x 4) &&& 252645135
def bc4 (x : Int32) : Int32 := x + ush x 8
def bc5 (x : Int32) : Int32 := x + ush x 16
def bcI (x : Int32) : Int32 := bc5 (bc4 (bc3 (bc2 (bc1 x)))) &&& 63
def pop (n : Nat) : Nat := fb_ct (fun i => n.testBit i) 10
theorem bcI_pop : ∀ a, a < 1024 → bcI (nI a) = nI (pop a) := by decide +kernel
theorem pop_le (n : Nat) : pop n ≤ 10 := fb_ct_le _ 10
def at1 (a e : Nat) (o : Option Nat) : Option Nat := if a = 50 then some e else o
def at2 (a e : Nat) (o : Option Nat) : Option Nat := if a = 54 then some e else o
theorem RR_at {co dr : Nat} {cc a1 a2 : Option Nat} {a e : Nat} (ha : a = 50 ∨ a = 54) : up2 (RR co dr cc a1 a2) a 0 (some e) = RR co dr cc (at1 a e a1) (at2 a e a2) := by
  rcases ha with rfl | rfl
  · exact RR_a1
  · exact RR_a2
theorem RR_at0 {co dr : Nat} {cc a1 a2 : Option Nat} {a e : Nat} (ha : a = 50 ∨ a = 54) : RR co dr cc (at1 a e a1) (at2 a e a2) a 0 = some e := by
  rcases ha with rfl | rfl <;> rfl
def cnt8 (n : Nat) : Nat := fb_ct (fun i => n.testBit i) 8
theorem cnt8_drop {n i : Nat} (hi : i < 8) (h : n.testBit i = true) : cnt8 (andn n (2 ^ i)) + 1 = cnt8 n := by
  have e : (fun k => (andn n (2 ^ i)).testBit k) = fun k => if k = i then false else n.testBit k := by
    funext k
    rw [andn_tb, pow_tb]
    by_cases hk : k = i
    · subst hk; simp
    · simp [hk, Ne.symm hk]
  have := fb_ct_upd (fun k => n.testBit k) false hi
  unfold cnt8
  rw [e]
  rw [h] at this
  simpa using this
theorem cnt8_zero {n : Nat} (hn : n < 2 ^ 8) (h : cnt8 n = 0) : n = 0 := by
  have := fb_ct_zero.mp h
  refine tb_ext (fun i => ?_)
  rw [Nat.zero_testBit]
  by_cases hi : i < 8
  · exact this i hi
  · exact tb_big hn (by omega)
section
variable {E : En} {I : TI} {J : TJ} {co dr : Nat} {cc a1 a2 : Option Nat} {Post : PT} {a e : Nat} {K : KT} {off cut : Nat}
theorem sp_bitCount {n : Nat} {R : TR} {x : Int32} (Kk : Post (some (.int (bcI x))) n I J R) : Cal E 1 M_J6_bitCount_0f7a4 [.int x] n I J R Post := by
  refine Cal_of kn_J6_bitCount_0f7a4 rfl (Nat.le_of_ble_eq_true rfl) ?_
  refine V_iload_n dJ6_bitCount_0f7a4_0 rfl rfl (V_iload_n dJ6_bitCount_0f7a4_1 rfl rfl (V_iconst (v := 1) dJ6_bitCount_0f7a4_2 (by decide) (V_iushr dJ6_bitCount_0f7a4_3 (V_ldc_w dJ6_bitCount_0f7a4_4 ct_J6_265 (V_iand dJ6_bitCount_0f7a4_7 ?_)))))
  refine V_isub dJ6_bitCount_0f7a4_8 (V_istore_0 dJ6_bitCount_0f7a4_9 (by decide) (V_iload_n dJ6_bitCount_0f7a4_10 rfl rfl (V_ldc_w dJ6_bitCount_0f7a4_11 ct_J6_266 (V_iand dJ6_bitCount_0f7a4_14 (V_iload_n dJ6_bitCount_0f7a4_15 rfl rfl ?_)))))
  refine V_iconst (v := 2) dJ6_bitCount_0f7a4_16 (by decide) (V_iushr dJ6_bitCount_0f7a4_17 (V_ldc_w dJ6_bitCount_0f7a4_18 ct_J6_266 (V_iand dJ6_bitCount_0f7a4_21 (V_iadd dJ6_bitCount_0f7a4_22 (V_istore_0 dJ6_bitCount_0f7a4_23 (by decide) ?_)))))
  refine V_iload_n dJ6_bitCount_0f7a4_24 rfl rfl (V_iload_n dJ6_bitCount_0f7a4_25 rfl rfl (V_iconst (v := 4) dJ6_bitCount_0f7a4_26 (by decide) (V_iushr dJ6_bitCount_0f7a4_27 (V_iadd dJ6_bitCount_0f7a4_28 (V_ldc_w dJ6_bitCount_0f7a4_29 ct_J6_267 ?_)))))
  refine V_iand dJ6_bitCount_0f7a4_32 (V_istore_0 dJ6_bitCount_0f7a4_33 (by decide) (V_iload_n dJ6_bitCount_0f7a4_34 rfl rfl (V_iload_n dJ6_bitCount_0f7a4_35 rfl rfl (V_bipush (v := 8) dJ6_bitCount_0f7a4_36 (by decide) (V_iushr dJ6_bitCount_0f7a4_38 ?_)))))
  refine V_iadd dJ6_bitCount_0f7a4_39 (V_istore_0 dJ6_bitCount_0f7a4_40 (by decide) (V_iload_n dJ6_bitCount_0f7a4_41 rfl rfl (V_iload_n dJ6_bitCount_0f7a4_42 rfl rfl (V_bipush (v := 16) dJ6_bitCount_0f7a4_43 (by decide) (V_iushr dJ6_bitCount_0f7a4_45 ?_)))))
  refine V_iadd dJ6_bitCount_0f7a4_46 (V_istore_0 dJ6_bitCount_0f7a4_47 (by decide) (V_iload_n dJ6_bitCount_0f7a4_48 rfl rfl (V_bipush (v := 63) dJ6_bitCount_0f7a4_49 (by decide) (V_iand dJ6_bitCount_0f7a4_51 ?_))))
  refine V_ireturn dJ6_bitCount_0f7a4_52 rfl rfl rfl (by decide) (by decide) ?_
  exact Kk
theorem sp_scarcest {d : Nat} (hd : 2 ≤ d) (ha : a = 50 ∨ a = 54) (he : e = 4 ∨ e = 18) (hB : KB K) (hX : CoX I e K) (hR : RR co dr cc a1 a2 a 0 = some e) {opn row : Nat} (ho : opn < 2 ^ K 0 1) (hz : opn ≠ 0) (hrow : row ≤ 64) (hL : ∀ i, i < K 0 1 → opn.testBit i = true → ∃ v, v < 1024 ∧ I (a + 1) (row + i) = nI v) (Kk : ∀ i, i < K 0 1 → opn.testBit i = true → Post (some (.int (nI i))) NC I J (RR co dr cc a1 a2)) : Cal E d M_X1_scarcest [.ref a, .int (nI opn), .int (nI row)] NC I J (RR co dr cc a1 a2) Post := by
  have hQ := hB.1.2.1
  have ho31 : opn < 2 ^ 31 := lt31 ho (by omega)
  obtain ⟨_, _, _⟩ := f_at (co := co) (dr := dr) (cc := cc) (a1 := a1) (a2 := a2) (ha)
  obtain ⟨_, _, _, _, _, _, _, _, _, _, _, _, _, _, _, _, _, _, _, _, _, _, _⟩ := f_co (co := co) (dr := dr) (cc := cc) (a1 := a1) (a2 := a2) (he)
  refine Cal_of kn_X1_scarcest rfl (Nat.le_of_ble_eq_true rfl) ?_
  refine V_iconst (v := 0) dX1_scarcest_0 (by decide) (V_istore_3 dX1_scarcest_1 (by decide) rfl (V_bipush (v := 11) dX1_scarcest_2 (by decide) (V_istore_4 dX1_scarcest_4 (by decide) rfl (V_iconst (v := 0) dX1_scarcest_6 (by decide) (V_istore_5 dX1_scarcest_7 (by decide) rfl ?_)))))
  have fin : ∀ (fo fw : Nat) (ls : List (Option Value)), fw ≤ 11 → (fw < 11 → fo < K 0 1 ∧ opn.testBit fo = true) → (fw = 11 → ∀ j, j < K 0 1 → opn.testBit j = false) → ls[3]? = some (some (.int (nI fo))) → V E d M_X1_scarcest Post 70 ls [] NC 0 0 I J (RR co dr cc a1 a2) := by
    intro fo fw ls h1 h2 h3 hls
    refine V_iload_n dX1_scarcest_70 rfl hls ?_
    refine V_ireturn dX1_scarcest_71 rfl rfl rfl (by decide) (by decide) ?_
    by_cases hf : fw < 11
    · exact Kk fo (h2 hf).1 (h2 hf).2
    · exfalso
      refine hz (tb_ext (fun j => ?_))
      rw [Nat.zero_testBit]
      by_cases hj : j < K 0 1
      · exact h3 (by omega) j hj
      · exact tb_big ho (by omega)
  have key : ∀ q, q ≤ K 0 1 → ∀ (fo fw : Nat), fw ≤ 11 → (fw < 11 → fo < K 0 1 ∧ opn.testBit fo = true) → (fw = 11 → ∀ j, j < q → opn.testBit j = false) → V E d M_X1_scarcest Post 9 [some (.ref a), some (.int (nI opn)), some (.int (nI row)), some (.int (nI fo)), some (.int (nI fw)), some (.int (nI q)), none] [] NC 0 0 I J (RR co dr cc a1 a2) := by
    refine loop_up _ ?_ ?_
    · intro fo fw h1 h2 h3
      refine V_iload dX1_scarcest_9 rfl (V_aload_n dX1_scarcest_11 rfl rfl ?_)
      refine V_getR dX1_scarcest_12 fl_X1_15 (by first | assumption | exact ⟨by decide, rfl⟩) (by first | assumption | rfl) ?_
      refine V_getI dX1_scarcest_15 fl_X1_19 (by first | assumption | exact ⟨by decide, rfl⟩) ?_
      refine V_icmp_ge_t (tgt := 70) dX1_scarcest_18 (by decide) (by rw [hX.1.2.1]; exact nI_le (Nat.le_refl _) (by omega)) ?_
      exact fin fo fw _ h1 h2 h3 rfl
    · intro q hq ih fo fw h1 h2 h3
      by_cases hf1 : fw ≤ 1
      · refine V_iload dX1_scarcest_9 rfl (V_aload_n dX1_scarcest_11 rfl rfl ?_)
        refine V_getR dX1_scarcest_12 fl_X1_15 (by first | assumption | exact ⟨by decide, rfl⟩) (by first | assumption | rfl) ?_
        refine V_getI dX1_scarcest_15 fl_X1_19 (by first | assumption | exact ⟨by decide, rfl⟩) ?_
        refine V_icmp_ge_f (tgt := 70) dX1_scarcest_18 (by decide) (by rw [hX.1.2.1]; exact nI_ge hq (by omega)) ?_
        refine V_iload dX1_scarcest_21 rfl (V_iconst (v := 1) dX1_scarcest_23 (by decide) ?_)
        refine V_icmp_le_t (tgt := 70) dX1_scarcest_24 (by decide) (by rw [show (1 : Int32) = nI 1 from rfl, lit_le (by omega) (by omega)]; exact hf1) ?_
        exact fin fo fw _ h1 h2 (fun h => absurd h (by omega)) rfl
      · refine V_iload dX1_scarcest_9 rfl (V_aload_n dX1_scarcest_11 rfl rfl ?_)
        refine V_getR dX1_scarcest_12 fl_X1_15 (by first | assumption | exact ⟨by decide, rfl⟩) (by first | assumption | rfl) ?_
        refine V_getI dX1_scarcest_15 fl_X1_19 (by first | assumption | exact ⟨by decide, rfl⟩) ?_
        refine V_icmp_ge_f (tgt := 70) dX1_scarcest_18 (by decide) (by rw [hX.1.2.1]; exact nI_ge hq (by omega)) ?_
        refine V_iload dX1_scarcest_21 rfl (V_iconst (v := 1) dX1_scarcest_23 (by decide) ?_)
        refine V_icmp_le_f (tgt := 70) dX1_scarcest_24 (by decide) (by rw [show (1 : Int32) = nI 1 from rfl, lit_le (by omega) (by omega)]; exact hf1) ?_
        refine V_aload_n dX1_scarcest_27 rfl rfl ?_
        refine V_getR dX1_scarcest_28 fl_X1_9 (by first | assumption | exact ⟨by decide, rfl⟩) (by first | assumption | rfl) ?_
        refine V_iload_n dX1_scarcest_31 rfl rfl (V_iload dX1_scarcest_32 rfl (V_iadd dX1_scarcest_34 ?_))
        refine V_ial dX1_scarcest_35 (by first | assumption | exact ⟨by decide, rfl⟩) (show ix _ (row + q) 72 from ⟨nI_add row q, by omega⟩) ?_
        refine V_cS1i (M' := M_J6_bitCount_0f7a4) (d' := 1) dX1_scarcest_36 (Or.inl ml_X1_53) kb_J6_bitCount_0f7a4 (by first | decide | omega) (by simp [Value.category]) ⟨by decide, by decide⟩ ?_
        refine sp_bitCount ⟨_, rfl, ?_⟩
        refine V_istore_6 dX1_scarcest_39 (by decide) rfl (V_iload_n dX1_scarcest_41 rfl rfl (V_iload dX1_scarcest_42 rfl ?_))
        refine V_cS2i (M' := M_X10_has) (d' := 1) dX1_scarcest_44 (Or.inr ⟨_, ml_X1_34⟩) kb_X10_has (by first | decide | omega) (by simp [Value.category]) ⟨by decide, by decide⟩ ?_
        refine sp_has ho31 (by omega) ⟨_, rfl, ?_⟩
        cases hv : opn.testBit q
        · refine V_if_eq_t (tgt := 64) dX1_scarcest_47 (by decide) (rfl) ?_
          refine V_iinc_5 (w := 1) dX1_scarcest_64 (by decide) (by decide) rfl (V_goto (tgt := 9) dX1_scarcest_67 (by decide) ?_)
          rw [nI_1]
          refine V_forget (ih fo fw h1 h2 (fun h j hj => ?_)) (by simp [lessb])
          by_cases hjq : j = q
          · subst hjq; exact hv
          · exact h3 h j (by omega)
        · obtain ⟨v, hv1, hv2⟩ := hL q hq hv
          have hpl := pop_le v
          rw [hv2, bcI_pop v hv1]
          by_cases hlt : pop v < fw
          · refine V_if_eq_f (tgt := 64) dX1_scarcest_47 (by decide) (by decide) ?_
            refine V_iload dX1_scarcest_50 rfl (V_iload dX1_scarcest_52 rfl ?_)
            refine V_icmp_ge_f (tgt := 64) dX1_scarcest_54 (by decide) (by rw [lit_le (by omega) (by omega)]; omega) ?_
            refine V_iload dX1_scarcest_57 rfl (V_istore_4 dX1_scarcest_59 (by decide) rfl (V_iload dX1_scarcest_61 rfl (V_istore_3 dX1_scarcest_63 (by decide) rfl (V_iinc_5 (w := 1) dX1_scarcest_64 (by decide) (by decide) rfl (V_goto (tgt := 9) dX1_scarcest_67 (by decide) ?_)))))
            rw [nI_1]
            refine V_forget (ih q (pop v) (by omega) (fun _ => ⟨hq, hv⟩) (fun h => absurd h (by omega))) (by simp [lessb])
          · refine V_if_eq_f (tgt := 64) dX1_scarcest_47 (by decide) (by decide) ?_
            refine V_iload dX1_scarcest_50 rfl (V_iload dX1_scarcest_52 rfl ?_)
            refine V_icmp_ge_t (tgt := 64) dX1_scarcest_54 (by decide) (by rw [lit_le (by omega) (by omega)]; omega) ?_
            refine V_iinc_5 (w := 1) dX1_scarcest_64 (by decide) (by decide) rfl (V_goto (tgt := 9) dX1_scarcest_67 (by decide) ?_)
            rw [nI_1]
            refine V_forget (ih fo fw h1 h2 (fun h => absurd h (by omega))) (by simp [lessb])
  exact key 0 (Nat.zero_le _) 0 11 (by omega) (fun h => absurd h (by omega)) (fun _ j hj => absurd hj (by omega))
theorem sp_strike {d : Nat} (hd : 2 ≤ d) (ha : a = 50 ∨ a = 54) (he : e = 4 ∨ e = 18) (hB : KB K) (hX : CoX I e K) (hS : SX I e K) (hR : RR co dr cc a1 a2 a 0 = some e) {oth row p i : Nat} (ho : oth < 2 ^ 31) (hrow : row ≤ 56) (hp : p < 10) (hi : i < K 0 1) {left : Nat → Nat} (hL : ∀ j, j < K 0 1 → oth.testBit j = true → I (a + 1) (row + j) = nI (left j) ∧ left j < 1024)
    (Kt : ∀ I', (∀ x y, (x ≠ a + 1 ∨ y < row + 8) → I' x y = I x y) → (∀ j, j < K 0 1 → oth.testBit j = true → I' (a + 1) (row + 8 + j) = nI (lst2 (clf K) left i p j) ∧ lst2 (clf K) left i p j < 1024) → Post (some (.int 1)) NC I' J (RR co dr cc a1 a2))
    (Kf : ∀ I', (∀ x y, (x ≠ a + 1 ∨ y < row + 8) → I' x y = I x y) → (∃ j, j < K 0 1 ∧ oth.testBit j = true ∧ lst2 (clf K) left i p j = 0) → Post (some (.int 0)) NC I' J (RR co dr cc a1 a2)) : Cal E d M_X1_strike [.ref a, .int (nI oth), .int (nI row), .int (nI p), .int (nI i)] NC I J (RR co dr cc a1 a2) Post := by
  have hQ := hB.1.2.1
  obtain ⟨_, _, _⟩ := f_at (co := co) (dr := dr) (cc := cc) (a1 := a1) (a2 := a2) (ha)
  obtain ⟨_, _, _, _, _, _, _, _, _, _, _, _, _, _, _, _, _, _, _, _, _, _, _⟩ := f_co (co := co) (dr := dr) (cc := cc) (a1 := a1) (a2 := a2) (he)
  refine Cal_of kn_X1_strike rfl (Nat.le_of_ble_eq_true rfl) ?_
  refine V_aload_n dX1_strike_0 rfl rfl ?_
  refine V_getR dX1_strike_1 fl_X1_15 (by first | assumption | exact ⟨by decide, rfl⟩) (by first | assumption | rfl) ?_
  refine V_getR dX1_strike_4 fl_X1_31 (by first | assumption | exact ⟨by decide, rfl⟩) (by first | assumption | rfl) ?_
  refine V_iload dX1_strike_7 rfl ?_
  refine V_ial dX1_strike_9 (by first | assumption | exact ⟨by decide, rfl⟩) ⟨rfl, by omega⟩ ?_
  refine V_istore_5 dX1_strike_10 (by decide) rfl (V_iconst (v := 0) dX1_strike_12 (by decide) (V_istore_6 dX1_strike_13 (by decide) rfl ?_))
  rw [(hS i hi).2]
  have hcm31 : clashM K i < 2 ^ 31 := lt31 (clashM_lt K hB i) (by decide)
  have key : ∀ q, q ≤ K 0 1 → ∀ I1, (∀ x y, (x ≠ a + 1 ∨ y < row + 8) → I1 x y = I x y) → (∀ j, j < q → oth.testBit j = true → I1 (a + 1) (row + 8 + j) = nI (lst2 (clf K) left i p j) ∧ lst2 (clf K) left i p j < 1024) → V E d M_X1_strike Post 15 [some (.ref a), some (.int (nI oth)), some (.int (nI row)), some (.int (nI p)), some (.int (nI i)), some (.int (nI (clashM K i))), some (.int (nI q)), none] [] NC 0 0 I1 J (RR co dr cc a1 a2) := by
    refine loop_up _ ?_ ?_
    · intro I1 g1 g2
      have hX1 : CoX I1 e K := hX.of (fun x y q1 q2 => g1 x y (by omega))
      refine V_iload dX1_strike_15 rfl (V_aload_n dX1_strike_17 rfl rfl ?_)
      refine V_getR dX1_strike_18 fl_X1_15 (by first | assumption | exact ⟨by decide, rfl⟩) (by first | assumption | rfl) ?_
      refine V_getI dX1_strike_21 fl_X1_19 (by first | assumption | exact ⟨by decide, rfl⟩) ?_
      refine V_icmp_ge_t (tgt := 102) dX1_strike_24 (by decide) (by rw [hX1.1.2.1]; exact nI_le (Nat.le_refl _) (by omega)) ?_
      refine V_iconst (v := 1) dX1_strike_102 (by decide) ?_
      refine V_ireturn dX1_strike_103 rfl rfl rfl (by decide) (by decide) ?_
      exact Kt I1 g1 g2
    · intro q hq ih I1 g1 g2
      have hX1 : CoX I1 e K := hX.of (fun x y q1 q2 => g1 x y (by omega))
      refine V_iload dX1_strike_15 rfl (V_aload_n dX1_strike_17 rfl rfl ?_)
      refine V_getR dX1_strike_18 fl_X1_15 (by first | assumption | exact ⟨by decide, rfl⟩) (by first | assumption | rfl) ?_
      refine V_getI dX1_strike_21 fl_X1_19 (by first | assumption | exact ⟨by decide, rfl⟩) ?_
      refine V_icmp_ge_f (tgt := 102) dX1_strike_24 (by decide) (by rw [hX1.1.2.1]; exact nI_ge hq (by omega)) ?_
      refine V_iload_n dX1_strike_27 rfl rfl (V_iload dX1_strike_28 rfl ?_)
      refine V_cS2i (M' := M_X10_has) (d' := 1) dX1_strike_30 (Or.inr ⟨_, ml_X1_34⟩) kb_X10_has (by first | decide | omega) (by simp [Value.category]) ⟨by decide, by decide⟩ ?_
      refine sp_has ho (by omega) ⟨_, rfl, ?_⟩
      cases hv : oth.testBit q
      · refine V_if_eq_t (tgt := 96) dX1_strike_33 (by decide) (rfl) ?_
        refine V_iinc_6 (w := 1) dX1_strike_96 (by decide) (by decide) rfl (V_goto (tgt := 15) dX1_strike_99 (by decide) ?_)
        rw [nI_1]
        refine ih I1 g1 (fun j hj hjb => ?_)
        by_cases hjq : j = q
        · subst hjq; rw [hv] at hjb; cases hjb
        · exact g2 j (by omega) hjb
      · refine V_if_eq_f (tgt := 96) dX1_strike_33 (by decide) (by decide) ?_
        refine V_iload dX1_strike_36 rfl (V_iload dX1_strike_38 rfl ?_)
        refine V_cS2i (M' := M_X10_has) (d' := 1) dX1_strike_40 (Or.inr ⟨_, ml_X1_34⟩) kb_X10_has (by first | decide | omega) (by simp [Value.category]) ⟨by decide, by decide⟩ ?_
        refine sp_has hcm31 (by omega) ⟨_, rfl, ?_⟩
        rw [clashM_tb K hi]
        obtain ⟨l1, l2⟩ := hL q hq hv
        have hrq : I1 (a + 1) (row + q) = nI (left q) := by rw [g1 _ _ (Or.inr (by omega))]; exact l1
        have fin : lst2 (clf K) left i p q < 1024 → V E d M_X1_strike Post 75 [some (.ref a), some (.int (nI oth)), some (.int (nI row)), some (.int (nI p)), some (.int (nI i)), some (.int (nI (clashM K i))), some (.int (nI q)), some (.int (nI (lst2 (clf K) left i p q)))] [] NC 0 0 I1 J (RR co dr cc a1 a2) := by
          intro hlt
          by_cases hz : lst2 (clf K) left i p q = 0
          · refine V_iload dX1_strike_75 rfl ?_
            refine V_if_ne_f (tgt := 82) dX1_strike_77 (by decide) (by rw [hz]; exact nI_0) ?_
            refine V_iconst (v := 0) dX1_strike_80 (by decide) ?_
            refine V_ireturn dX1_strike_81 rfl rfl rfl (by decide) (by decide) ?_
            exact Kf I1 g1 ⟨q, hq, hv, hz⟩
          · refine V_iload dX1_strike_75 rfl ?_
            refine V_if_ne_t (tgt := 82) dX1_strike_77 (by decide) (by rw [← nI_0]; exact fun z => hz ((nI_eq (by omega) (by decide)).mp z)) ?_
            refine V_aload_n dX1_strike_82 rfl rfl ?_
            refine V_getR dX1_strike_83 fl_X1_9 (by first | assumption | exact ⟨by decide, rfl⟩) (by first | assumption | rfl) ?_
            refine V_iload_n dX1_strike_86 rfl rfl (V_bipush (v := 8) dX1_strike_87 (by decide) (V_iadd dX1_strike_89 (V_iload dX1_strike_90 rfl (V_iadd dX1_strike_92 (V_iload dX1_strike_93 rfl ?_)))))
            refine V_ias dX1_strike_95 (by first | assumption | exact ⟨by decide, rfl⟩) (show ix _ (row + 8 + q) 72 from ⟨(by rw [show (8 : Int32) = nI 8 from rfl, nI_add, nI_add]), by omega⟩) ?_
            refine V_iinc_6 (w := 1) dX1_strike_96 (by decide) (by decide) rfl (V_goto (tgt := 15) dX1_strike_99 (by decide) ?_)
            rw [nI_1]
            refine V_forget (ih _ (fun x y hxy => ?_) (fun j hj hjb => ?_)) (by simp [lessb])
            · rw [u2n (by omega)]; exact g1 x y hxy
            · by_cases hjq : j = q
              · subst hjq; rw [u2e]; exact ⟨rfl, hlt⟩
              · rw [u2n (by omega)]; exact g2 j (by omega) hjb
        cases hc : clf K i q
        · have el : lst2 (clf K) left i p q = left q := by unfold lst2; rw [if_neg (by rw [hc]; decide)]
          refine V_if_eq_t (tgt := 64) dX1_strike_43 (by decide) (rfl) ?_
          refine V_aload_n dX1_strike_64 rfl rfl ?_
          refine V_getR dX1_strike_65 fl_X1_9 (by first | assumption | exact ⟨by decide, rfl⟩) (by first | assumption | rfl) ?_
          refine V_iload_n dX1_strike_68 rfl rfl (V_iload dX1_strike_69 rfl (V_iadd dX1_strike_71 ?_))
          refine V_ial dX1_strike_72 (by first | assumption | exact ⟨by decide, rfl⟩) (show ix _ (row + q) 72 from ⟨nI_add row q, by omega⟩) ?_
          refine V_istore_7 dX1_strike_73 (by decide) rfl ?_
          rw [hrq]
          rw [el] at fin
          exact fin l2
        · have el : lst2 (clf K) left i p q = andn (left q) (2 ^ p) := by unfold lst2; rw [if_pos hc]
          refine V_if_eq_f (tgt := 64) dX1_strike_43 (by decide) (by decide) ?_
          refine V_aload_n dX1_strike_46 rfl rfl ?_
          refine V_getR dX1_strike_47 fl_X1_9 (by first | assumption | exact ⟨by decide, rfl⟩) (by first | assumption | rfl) ?_
          refine V_iload_n dX1_strike_50 rfl rfl (V_iload dX1_strike_51 rfl (V_iadd dX1_strike_53 ?_))
          refine V_ial dX1_strike_54 (by first | assumption | exact ⟨by decide, rfl⟩) (show ix _ (row + q) 72 from ⟨nI_add row q, by omega⟩) ?_
          refine V_iconst (v := 1) dX1_strike_55 (by decide) (V_iload_n dX1_strike_56 rfl rfl (V_ishl dX1_strike_57 (V_iconst (v := (-1)) dX1_strike_58 (by decide) (V_ixor dX1_strike_59 (V_iand dX1_strike_60 ?_)))))
          refine V_goto (tgt := 73) dX1_strike_61 (by decide) (V_istore_7 dX1_strike_73 (by decide) rfl ?_)
          rw [hrq, shl1 (by omega), andn_nI]
          rw [el] at fin
          exact fin (andn_lt (n := 10) l2)
  exact key 0 (Nat.zero_le _) I (fun _ _ _ => rfl) (fun j hj => absurd hj (by omega))
theorem sp_canFill (ha : a = 50 ∨ a = 54) (he : e = 4 ∨ e = 18) (hB : KB K) (hR : RR co dr cc a1 a2 a 0 = some e) : ∀ (r d dep opn : Nat) (left : Nat → Nat) (I : TI) (Post : PT), 3 + r ≤ d → dep + r = 8 → cnt8 opn ≤ r → opn < 2 ^ K 0 1 → CoX I e K → SX I e K → (∀ j, j < K 0 1 → opn.testBit j = true → I (a + 1) (8 * dep + j) = nI (left j) ∧ left j < 2 ^ K 0 0) →
    (∀ I', (∀ x y, (x ≠ a + 1 ∨ y < 8 * dep + 8) → I' x y = I x y) → EX (clf K) opn left → Post (some (.int 1)) NC I' J (RR co dr cc a1 a2)) →
    (∀ I', (∀ x y, (x ≠ a + 1 ∨ y < 8 * dep + 8) → I' x y = I x y) → ¬ EX (clf K) opn left → Post (some (.int 0)) NC I' J (RR co dr cc a1 a2)) → Cal E d M_X1_canFill [.ref a, .int (nI opn), .int (nI dep)] NC I J (RR co dr cc a1 a2) Post := by
  have hP := hB.1.1
  have hQ := hB.1.2.1
  have hpw : 2 ^ K 0 0 ≤ 1024 := Nat.pow_le_pow_right (n := 2) (by decide) hP
  obtain ⟨_, _, _⟩ := f_at (co := co) (dr := dr) (cc := cc) (a1 := a1) (a2 := a2) (ha)
  obtain ⟨_, _, _, _, _, _, _, _, _, _, _, _, _, _, _, _, _, _, _, _, _, _, _⟩ := f_co (co := co) (dr := dr) (cc := cc) (a1 := a1) (a2 := a2) (he)
  intro r
  induction r with
  | zero =>
    intro d dep opn left I Post hd hdep hcnt ho hX hS hL Kt Kf
    have hz : opn = 0 := cnt8_zero (Nat.lt_of_lt_of_le ho (Nat.pow_le_pow_right (by decide) hQ)) (by omega)
    subst hz
    refine Cal_of kn_X1_canFill rfl (Nat.le_of_ble_eq_true rfl) ?_
    refine V_iload_n dX1_canFill_0 rfl rfl ?_
    refine V_if_ne_f (tgt := 6) dX1_canFill_1 (by decide) (nI_0) ?_
    refine V_iconst (v := 1) dX1_canFill_4 (by decide) ?_
    refine V_ireturn dX1_canFill_5 rfl rfl rfl (by decide) (by decide) ?_
    exact Kt I (fun _ _ _ => rfl) (EX_zero _ _)
  | succ r ih =>
    intro d dep opn left I Post hd hdep hcnt ho hX hS hL Kt Kf
    have ho31 : opn < 2 ^ 31 := lt31 ho (by omega)
    refine Cal_of kn_X1_canFill rfl (Nat.le_of_ble_eq_true rfl) ?_
    by_cases hz : opn = 0
    · subst hz
      refine V_iload_n dX1_canFill_0 rfl rfl ?_
      refine V_if_ne_f (tgt := 6) dX1_canFill_1 (by decide) (nI_0) ?_
      refine V_iconst (v := 1) dX1_canFill_4 (by decide) ?_
      refine V_ireturn dX1_canFill_5 rfl rfl rfl (by decide) (by decide) ?_
      exact Kt I (fun _ _ _ => rfl) (EX_zero _ _)
    · refine V_iload_n dX1_canFill_0 rfl rfl ?_
      refine V_if_ne_t (tgt := 6) dX1_canFill_1 (by decide) (by rw [← nI_0]; exact fun z => hz ((nI_eq ho31 (by decide)).mp z)) ?_
      refine V_iload_n dX1_canFill_6 rfl rfl (V_bipush (v := 8) dX1_canFill_7 (by decide) ?_)
      refine V_icmp_lt_t (tgt := 14) dX1_canFill_9 (by decide) (by rw [show (8 : Int32) = nI 8 from rfl, lit_lt (by omega) (by omega)]; omega) ?_
      refine V_iload_n dX1_canFill_14 rfl rfl (V_bipush (v := 8) dX1_canFill_15 (by decide) (V_imul dX1_canFill_17 (V_istore_3 dX1_canFill_18 (by decide) rfl (V_aload_n dX1_canFill_19 rfl rfl (V_iload_n dX1_canFill_20 rfl rfl ?_)))))
      refine V_iload_n dX1_canFill_21 rfl rfl ?_
      refine V_cV2i (M' := M_X1_scarcest) (d' := 2) dX1_canFill_22 (Or.inl ml_X1_42) kb_X1_scarcest (by first | assumption | exact ⟨by decide, rfl⟩) (by first | decide | omega) (by simp [Value.category]) ⟨by decide, by decide⟩ ?_
      rw [show (8 : Int32) = nI 8 from rfl, pk_mul, Nat.mul_comm dep 8]
      refine sp_scarcest (by decide) ha he hB hX hR ho hz (by omega) (fun i hi hb => ⟨left i, by have := (hL i hi hb).2; omega, (hL i hi hb).1⟩) (fun i hi hb => ⟨_, rfl, ?_⟩)
      refine V_istore_4 dX1_canFill_25 (by decide) rfl (V_iload_n dX1_canFill_27 rfl rfl (V_iconst (v := 1) dX1_canFill_28 (by decide) (V_iload dX1_canFill_29 rfl (V_ishl dX1_canFill_31 (V_iconst (v := (-1)) dX1_canFill_32 (by decide) ?_)))))
      refine V_ixor dX1_canFill_33 (V_iand dX1_canFill_34 (V_istore_5 dX1_canFill_35 (by decide) rfl (V_iconst (v := 0) dX1_canFill_37 (by decide) (V_istore_6 dX1_canFill_38 (by decide) rfl ?_))))
      rw [shl1 (by omega), andn_nI]
      have hoth : andn opn (2 ^ i) < 2 ^ K 0 1 := andn_lt ho
      have hcnt2 := cnt8_drop (by omega) hb
      -- the players from q on
      have key : ∀ q, q ≤ K 0 0 → ∀ I1, (∀ x y, (x ≠ a + 1 ∨ y < 8 * dep + 8) → I1 x y = I x y) → (∀ p, p < q → (left i).testBit p = true → ¬ EX (clf K) (andn opn (2 ^ i)) (lst2 (clf K) left i p)) → V E d M_X1_canFill Post 40 [some (.ref a), some (.int (nI opn)), some (.int (nI dep)), some (.int (nI (8 * dep))), some (.int (nI i)), some (.int (nI (andn opn (2 ^ i)))), some (.int (nI q))] [] NC 0 0 I1 J (RR co dr cc a1 a2) := by
        refine loop_up _ ?_ ?_
        · intro I1 g1 g2
          have hX1 : CoX I1 e K := hX.of (fun x y q1 q2 => g1 x y (by omega))
          refine V_iload dX1_canFill_40 rfl (V_aload_n dX1_canFill_42 rfl rfl ?_)
          refine V_getR dX1_canFill_43 fl_X1_15 (by first | assumption | exact ⟨by decide, rfl⟩) (by first | assumption | rfl) ?_
          refine V_getI dX1_canFill_46 fl_X1_46 (by first | assumption | exact ⟨by decide, rfl⟩) ?_
          refine V_icmp_ge_t (tgt := 103) dX1_canFill_49 (by decide) (by rw [hX1.1.1]; exact nI_le (Nat.le_refl _) (by omega)) ?_
          refine V_iconst (v := 0) dX1_canFill_103 (by decide) ?_
          refine V_ireturn dX1_canFill_104 rfl rfl rfl (by decide) (by decide) ?_
          refine Kf I1 g1 (fun hex => ?_)
          obtain ⟨p, hp, hx⟩ := (EX_step (clf_sym K) hb).mp hex
          by_cases hpP : p < K 0 0
          · exact g2 p hpP hp hx
          · rw [tb_big (hL i hi hb).2 (by omega)] at hp; cases hp
        · intro q hq ihq I1 g1 g2
          have hX1 : CoX I1 e K := hX.of (fun x y q1 q2 => g1 x y (by omega))
          have hS1 : SX I1 e K := hS.of (fun b => ⟨g1 _ b (by omega), g1 _ b (by omega)⟩)
          have hli := hL i hi hb
          refine V_iload dX1_canFill_40 rfl (V_aload_n dX1_canFill_42 rfl rfl ?_)
          refine V_getR dX1_canFill_43 fl_X1_15 (by first | assumption | exact ⟨by decide, rfl⟩) (by first | assumption | rfl) ?_
          refine V_getI dX1_canFill_46 fl_X1_46 (by first | assumption | exact ⟨by decide, rfl⟩) ?_
          refine V_icmp_ge_f (tgt := 103) dX1_canFill_49 (by decide) (by rw [hX1.1.1]; exact nI_ge hq (by omega)) ?_
          refine V_aload_n dX1_canFill_52 rfl rfl ?_
          refine V_getR dX1_canFill_53 fl_X1_9 (by first | assumption | exact ⟨by decide, rfl⟩) (by first | assumption | rfl) ?_
          refine V_iload_n dX1_canFill_56 rfl rfl (V_iload dX1_canFill_57 rfl (V_iadd dX1_canFill_59 ?_))
          refine V_ial dX1_canFill_60 (by first | assumption | exact ⟨by decide, rfl⟩) (show ix _ (8 * dep + i) 72 from ⟨nI_add _ _, by omega⟩) ?_
          refine V_iload dX1_canFill_61 rfl ?_
          refine V_cS2i (M' := M_X10_has) (d' := 1) dX1_canFill_63 (Or.inr ⟨_, ml_X1_34⟩) kb_X10_has (by first | decide | omega) (by simp [Value.category]) ⟨by decide, by decide⟩ ?_
          rw [g1 _ _ (Or.inr (by omega)), hli.1]
          refine sp_has (by omega) (by omega) ⟨_, rfl, ?_⟩
          cases hv : (left i).testBit q
          · refine V_if_eq_t (tgt := 97) dX1_canFill_66 (by decide) (rfl) ?_
            refine V_iinc_6 (w := 1) dX1_canFill_97 (by decide) (by decide) rfl (V_goto (tgt := 40) dX1_canFill_100 (by decide) ?_)
            rw [nI_1]
            refine ihq I1 g1 (fun p hp hpb => ?_)
            by_cases hpq : p = q
            · subst hpq; rw [hv] at hpb; cases hpb
            · exact g2 p (by omega) hpb
          · refine V_if_eq_f (tgt := 97) dX1_canFill_66 (by decide) (by decide) ?_
            refine V_aload_n dX1_canFill_69 rfl rfl (V_iload dX1_canFill_70 rfl (V_iload_n dX1_canFill_72 rfl rfl (V_iload dX1_canFill_73 rfl (V_iload dX1_canFill_75 rfl ?_))))
            refine V_cV4i (M' := M_X1_strike) (d' := 2) dX1_canFill_77 (Or.inl ml_X1_49) kb_X1_strike (by first | assumption | exact ⟨by decide, rfl⟩) (by first | decide | omega) (by simp [Value.category]) ⟨by decide, by decide⟩ ?_
            refine sp_strike (left := left) (by decide) ha he hB hX1 hS1 hR (lt31 hoth (by omega)) (by omega) (by omega) hi (fun j hj hjb => ?_) (fun I2 m1 m2 => ⟨_, rfl, ?_⟩) (fun I2 m1 m2 => ⟨_, rfl, ?_⟩)
            · rw [andn_tb] at hjb
              simp at hjb
              have := hL j hj hjb.1
              rw [g1 _ _ (Or.inr (by omega))]
              exact ⟨this.1, by omega⟩
            · have hX2 : CoX I2 e K := hX1.of (fun x y q1 q2 => m1 x y (by omega))
              have hS2 : SX I2 e K := hS1.of (fun b => ⟨m1 _ b (by omega), m1 _ b (by omega)⟩)
              have g21 : ∀ x y, (x ≠ a + 1 ∨ y < 8 * dep + 8) → I2 x y = I x y := fun x y hxy => by rw [m1 x y hxy]; exact g1 x y hxy
              refine V_if_eq_f (tgt := 97) dX1_canFill_80 (by decide) (by decide) ?_
              refine V_aload_n dX1_canFill_83 rfl rfl (V_iload dX1_canFill_84 rfl (V_iload_n dX1_canFill_86 rfl rfl (V_iconst (v := 1) dX1_canFill_87 (by decide) (V_iadd dX1_canFill_88 ?_))))
              refine V_cS3i (M' := M_X1_canFill) (d' := (d-1)) dX1_canFill_89 (Or.inl ml_X1_38) kb_X1_canFill (by first | decide | omega) (by simp [Value.category]) ⟨by decide, by decide⟩ ?_
              rw [nI_1]
              refine ih (d - 1) (dep + 1) (andn opn (2 ^ i)) (lst2 (clf K) left i q) I2 _ (by omega) (by omega) (by omega) hoth hX2 hS2 (fun j hj hjb => ?_) (fun I3 w1 w2 => ⟨_, rfl, ?_⟩) (fun I3 w1 w2 => ⟨_, rfl, ?_⟩)
              · rw [show 8 * (dep + 1) + j = 8 * dep + 8 + j by omega]
                refine ⟨(m2 j hj hjb).1, ?_⟩
                rw [andn_tb] at hjb
                simp at hjb
                unfold lst2
                split
                · exact andn_lt (hL j hj hjb.1).2
                · exact (hL j hj hjb.1).2
              · refine V_if_eq_f (tgt := 97) dX1_canFill_92 (by decide) (by decide) ?_
                refine V_iconst (v := 1) dX1_canFill_95 (by decide) ?_
                refine V_ireturn dX1_canFill_96 rfl rfl rfl (by decide) (by decide) ?_
                exact Kt I3 (fun x y hxy => by rw [w1 x y (by omega)]; exact g21 x y hxy) ((EX_step (clf_sym K) hb).mpr ⟨q, hv, w2⟩)
              · refine V_if_eq_t (tgt := 97) dX1_canFill_92 (by decide) (rfl) ?_
                refine V_iinc_6 (w := 1) dX1_canFill_97 (by decide) (by decide) rfl (V_goto (tgt := 40) dX1_canFill_100 (by decide) ?_)
                rw [nI_1]
                refine ihq I3 (fun x y hxy => by rw [w1 x y (by omega)]; exact g21 x y hxy) (fun p hp hpb => ?_)
                by_cases hpq : p = q
                · subst hpq; exact w2
                · exact g2 p (by omega) hpb
            · obtain ⟨j, j1, j2, j3⟩ := m2
              refine V_if_eq_t (tgt := 97) dX1_canFill_80 (by decide) (rfl) ?_
              refine V_iinc_6 (w := 1) dX1_canFill_97 (by decide) (by decide) rfl (V_goto (tgt := 40) dX1_canFill_100 (by decide) ?_)
              rw [nI_1]
              refine ihq I2 (fun x y hxy => by rw [m1 x y hxy]; exact g1 x y hxy) (fun p hp hpb => ?_)
              by_cases hpq : p = q
              · subst hpq; exact EX_no j2 j3
              · exact g2 p (by omega) hpb
      exact key 0 (Nat.zero_le _) I (fun _ _ _ => rfl) (fun p hp => absurd hp (by omega))
end
