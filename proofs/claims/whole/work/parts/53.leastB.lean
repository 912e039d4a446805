/-! The Caster: weigh, findLeast, what is read off the best casting -/
theorem min_if {a b : Nat} (ha : a < 2 ^ 31) (hb : b < 2 ^ 31) : (if nI b < nI a then nI b else nI a) = nI (if b < a then b else a) := by
  by_cases h : b < a
  · rw [if_pos ((lit_lt hb ha).mpr h), if_pos h]
  · rw [if_neg (fun z => h ((lit_lt hb ha).mp z)), if_neg h]
theorem abs_nI {a b : Nat} (ha : a ≤ 99) (hb : b ≤ 99) : (if (0 : Int32) ≤ nI a - nI b then nI a - nI b else 0 - (nI a - nI b)) = nI (adf a b) := by
  have key : ∀ a, a < 100 → ∀ b, b < 100 → (if (0 : Int32) ≤ nI a - nI b then nI a - nI b else 0 - (nI a - nI b)) = nI (adf a b) := by decide +kernel
  exact key a (by omega) b (by omega)
section
variable {E : En} {I : TI} {J : TJ} {co dr : Nat} {cc a1 a2 : Option Nat} {Post : PT} {e : Nat} {K : KT} {off cut : Nat} {td : Nat} {sd : Nat → Nat} {ow : Nat → Int32}
theorem sp_weigh (he : e = 4 ∨ e = 18) (hB : KB K) (hC : CaI I e K off cut) (hD : DX I 32 td sd ow) (hDB : DB td sd) {i : Nat} (hi : i < K 0 1) (Kk : ∀ I', (∀ a b, a ≠ 45 → I' a b = I a b) → (∀ p j, p < 10 → j < 8 → j ≠ i → I' 45 (8 * p + j) = I 45 (8 * p + j)) → (∀ p, p < K 0 0 → okf K off p i = true → I' 45 (8 * p + i) = nI (trb K td sd p i)) → Post (some (.int (nI (lwt (trb K td sd) (okf K off) i (K 0 0))))) NC I' J (RR co dr (some e) a1 a2)) : Cal E 3 M_X2_weigh [.ref 42, .ref 32, .int (nI i)] NC I J (RR co dr (some e) a1 a2) Post := by
  have hP := hB.1.1
  have hQ := hB.1.2.1
  obtain ⟨_, _, _, _, _, _, _, _, _, _, _, _, _, _, _, _, _, _, _, _, _, _, _⟩ := f_co (co := co) (dr := dr) (cc := some e) (a1 := a1) (a2 := a2) he
  refine Cal_of kn_X2_weigh rfl (Nat.le_of_ble_eq_true rfl) ?_
  refine V_ldc dX2_weigh_0 ct_X2_73 (V_istore_3 dX2_weigh_2 (by decide) rfl (V_iconst (v := 0) dX2_weigh_3 (by decide) (V_istore_4 dX2_weigh_4 (by decide) rfl ?_)))
  have key : ∀ q, q ≤ K 0 0 → ∀ I1, (∀ a b, a ≠ 45 → I1 a b = I a b) → (∀ p j, p < 10 → j < 8 → j ≠ i → I1 45 (8 * p + j) = I 45 (8 * p + j)) → (∀ p, p < q → okf K off p i = true → I1 45 (8 * p + i) = nI (trb K td sd p i)) → V E 3 M_X2_weigh Post 6 [some (.ref 42), some (.ref 32), some (.int (nI i)), some (.int (nI (lwt (trb K td sd) (okf K off) i q))), some (.int (nI q)), none] [] NC 0 0 I1 J (RR co dr (some e) a1 a2) := by
    refine loop_up _ ?_ ?_
    · intro I1 g1 g2 g3
      have hC1 : CaI I1 e K off cut := hC.of (fun a b q1 q2 => g1 a b (by omega)) (g1 42 1 (by decide)) (g1 42 2 (by decide))
      refine V_iload dX2_weigh_6 rfl (V_aload_n dX2_weigh_8 rfl rfl ?_)
      refine V_getR dX2_weigh_9 fl_X2_27 (by first | assumption | exact ⟨by decide, rfl⟩) (by first | assumption | rfl) ?_
      refine V_getI dX2_weigh_12 fl_X2_67 (by first | assumption | exact ⟨by decide, rfl⟩) ?_
      refine V_icmp_ge_t (tgt := 135) dX2_weigh_15 (by decide) (by rw [hC1.1.1.1]; exact nI_le (Nat.le_refl _) (by omega)) ?_
      refine V_iload_n dX2_weigh_135 rfl rfl ?_
      refine V_ireturn dX2_weigh_136 rfl rfl rfl (by decide) (by decide) ?_
      exact Kk I1 g1 g2 g3
    · intro q hq ih I1 g1 g2 g3
      have hC1 : CaI I1 e K off cut := hC.of (fun a b q1 q2 => g1 a b (by omega)) (g1 42 1 (by decide)) (g1 42 2 (by decide))
      have hD1 : DX I1 32 td sd ow := hD.of (fun a b q1 q2 => g1 a b (by omega))
      have hX1 := hC1.1
      have hlw := lwt_max (tb := trb K td sd) (ok := okf K off) (i := i) q
      refine V_iload dX2_weigh_6 rfl (V_aload_n dX2_weigh_8 rfl rfl ?_)
      refine V_getR dX2_weigh_9 fl_X2_27 (by first | assumption | exact ⟨by decide, rfl⟩) (by first | assumption | rfl) ?_
      refine V_getI dX2_weigh_12 fl_X2_67 (by first | assumption | exact ⟨by decide, rfl⟩) ?_
      refine V_icmp_ge_f (tgt := 135) dX2_weigh_15 (by decide) (by rw [hC1.1.1.1]; exact nI_ge hq (by omega)) ?_
      refine V_aload_n dX2_weigh_18 rfl rfl ?_
      refine V_getR dX2_weigh_19 fl_X2_27 (by first | assumption | exact ⟨by decide, rfl⟩) (by first | assumption | rfl) ?_
      refine V_getR dX2_weigh_22 fl_X2_44 (by first | assumption | exact ⟨by decide, rfl⟩) (by first | assumption | rfl) ?_
      refine V_iload_n dX2_weigh_25 rfl rfl ?_
      refine V_ial dX2_weigh_26 (by first | assumption | exact ⟨by decide, rfl⟩) ⟨rfl, by omega⟩ ?_
      refine V_aload_n dX2_weigh_27 rfl rfl ?_
      refine V_getI dX2_weigh_28 fl_X2_31 (by first | assumption | exact ⟨by decide, rfl⟩) ?_
      refine V_iconst (v := (-1)) dX2_weigh_31 (by decide) (V_ixor dX2_weigh_32 (V_iand dX2_weigh_33 (V_iload dX2_weigh_34 rfl ?_)))
      refine V_cS2i (M' := M_X10_has) (d' := 1) dX2_weigh_36 (Or.inr ⟨_, ml_X2_49⟩) kb_X10_has (by first | decide | omega) (by simp [Value.category]) ⟨by decide, by decide⟩ ?_
      rw [(hC1.2.1 i hi).1, hC1.2.2.1, andn_nI]
      refine sp_has (lt31 (andn_lt (ableM_lt K hB i)) (by decide)) (by omega) ⟨_, rfl, ?_⟩
      have eo : (andn (ableM K i) off).testBit q = okf K off q i := by
        rw [andn_tb]; unfold ableM okf; rw [mk_tb]; simp [hq]
      rw [eo]
      cases hok : okf K off q i
      · refine V_if_eq_t (tgt := 129) dX2_weigh_39 (by decide) (rfl) ?_
        refine V_iinc_4 (w := 1) dX2_weigh_129 (by decide) (by decide) rfl (V_goto (tgt := 6) dX2_weigh_132 (by decide) ?_)
        rw [nI_1]
        have e9 : lwt (trb K td sd) (okf K off) i (q + 1) = lwt (trb K td sd) (okf K off) i q := by show (if okf K off q i = true then _ else _) = _; rw [if_neg (by rw [hok]; decide)]
        have h9 := ih I1 g1 g2 (fun p hp hk => by
          by_cases hpq : p = q
          · subst hpq; rw [hok] at hk; cases hk
          · exact g3 p (by omega) hk)
        rw [e9] at h9
        exact h9
      · refine V_if_eq_f (tgt := 129) dX2_weigh_39 (by decide) (by decide) ?_
        refine V_aload_n dX2_weigh_42 rfl rfl (V_aload_n dX2_weigh_43 rfl rfl ?_)
        refine V_getR dX2_weigh_44 fl_X2_27 (by first | assumption | exact ⟨by decide, rfl⟩) (by first | assumption | rfl) ?_
        refine V_iload dX2_weigh_47 rfl (V_iload_n dX2_weigh_49 rfl rfl ?_)
        refine V_cV3i (M' := M_X4_lostLines) (d' := 2) dX2_weigh_50 (Or.inl ml_X2_85) kb_X4_lostLines (by first | assumption | exact ⟨by decide, rfl⟩) (by first | decide | omega) (by simp [Value.category]) ⟨by decide, by decide⟩ ?_
        refine sp_lostLines (Or.inl rfl) he hB hX1 hD1 hDB (by omega) hi ⟨_, rfl, ?_⟩
        have htl := trb_le hB (td := td) (sd := sd) hq hi
        have ho := hX1.2.2.2.2.2.1 i (by omega)
        have hw : K 7 i ≤ 10 := Nat.le_trans (hB.2.2.2.2.1 i) hB.1.1
        have fin : V E 3 M_X2_weigh Post 108 [some (.ref 42), some (.ref 32), some (.int (nI i)), some (.int (nI (lwt (trb K td sd) (okf K off) i q))), some (.int (nI q)), some (.int (nI (trb K td sd q i)))] [] NC 0 0 I1 J (RR co dr (some e) a1 a2) := by
          refine V_aload_n dX2_weigh_108 rfl rfl ?_
          refine V_getR dX2_weigh_109 fl_X2_18 (by first | assumption | exact ⟨by decide, rfl⟩) (by first | assumption | rfl) ?_
          refine V_iload dX2_weigh_112 rfl (V_bipush (v := 8) dX2_weigh_114 (by decide) (V_imul dX2_weigh_116 (V_iload_n dX2_weigh_117 rfl rfl (V_iadd dX2_weigh_118 (V_iload dX2_weigh_119 rfl ?_)))))
          refine V_ias dX2_weigh_121 (by first | assumption | exact ⟨by decide, rfl⟩) (show ix _ (8 * q + i) 80 from ⟨(by rw [show (8 : Int32) = nI 8 from rfl, pk_mul, nI_add, Nat.mul_comm]), by omega⟩) ?_
          refine V_iload_n dX2_weigh_122 rfl rfl (V_iload dX2_weigh_123 rfl ?_)
          refine V_min dX2_weigh_125 ml_X2_109 (by first | decide | omega) (by simp [Value.category]) (by decide) (by decide) ?_
          refine V_istore_3 dX2_weigh_128 (by decide) rfl (V_iinc_4 (w := 1) dX2_weigh_129 (by decide) (by decide) rfl (V_goto (tgt := 6) dX2_weigh_132 (by decide) ?_))
          rw [nI_1, min_if (by omega) (by omega)]
          have e9 : lwt (trb K td sd) (okf K off) i (q + 1) = (if trb K td sd q i < lwt (trb K td sd) (okf K off) i q then trb K td sd q i else lwt (trb K td sd) (okf K off) i q) := by show (if okf K off q i = true then _ else _) = _; rw [if_pos hok]
          have h9 := ih (up2 I1 45 (8 * q + i) (nI (trb K td sd q i))) (fun a b ha => by rw [u2n (Or.inl ha)]; exact g1 a b ha) (fun p j hp hj hji => by rw [u2n (Or.inr (by omega))]; exact g2 p j hp hj hji) (fun p hp hk => by
            by_cases hpq : p = q
            · subst hpq; rw [u2e]
            · rw [u2n (Or.inr (by omega))]; exact g3 p (by omega) hk)
          rw [e9] at h9
          exact V_forget h9 (by simp [lessb])
        by_cases how : K 7 i = q + 1
        · refine V_istore_5 dX2_weigh_53 (by decide) rfl (V_aload_n dX2_weigh_55 rfl rfl ?_)
          refine V_getR dX2_weigh_56 fl_X2_27 (by first | assumption | exact ⟨by decide, rfl⟩) (by first | assumption | rfl) ?_
          refine V_getR dX2_weigh_59 fl_X2_91 (by first | assumption | exact ⟨by decide, rfl⟩) (by first | assumption | rfl) ?_
          refine V_iload_n dX2_weigh_62 rfl rfl ?_
          refine V_ial dX2_weigh_63 (by first | assumption | exact ⟨by decide, rfl⟩) ⟨rfl, by omega⟩ ?_
          refine V_iload dX2_weigh_64 rfl ?_
          refine V_icmp_eq_t (tgt := 108) dX2_weigh_66 (by decide) (by rw [ho]; exact (owv_eq hw (by omega)).mpr how) ?_
          have e8 : trb K td sd q i = K 6 i - kpt K td sd q i := by unfold trb; rw [if_pos how]; omega
          rw [e8] at fin
          exact fin
        · refine V_istore_5 dX2_weigh_53 (by decide) rfl (V_aload_n dX2_weigh_55 rfl rfl ?_)
          refine V_getR dX2_weigh_56 fl_X2_27 (by first | assumption | exact ⟨by decide, rfl⟩) (by first | assumption | rfl) ?_
          refine V_getR dX2_weigh_59 fl_X2_91 (by first | assumption | exact ⟨by decide, rfl⟩) (by first | assumption | rfl) ?_
          refine V_iload_n dX2_weigh_62 rfl rfl ?_
          refine V_ial dX2_weigh_63 (by first | assumption | exact ⟨by decide, rfl⟩) ⟨rfl, by omega⟩ ?_
          refine V_iload dX2_weigh_64 rfl ?_
          refine V_icmp_eq_f (tgt := 108) dX2_weigh_66 (by decide) (by rw [ho]; exact fun z => how ((owv_eq hw (by omega)).mp z)) ?_
          refine V_iload dX2_weigh_69 rfl (V_bipush (v := 100) dX2_weigh_71 (by decide) (V_aload_n dX2_weigh_73 rfl rfl ?_))
          refine V_getR dX2_weigh_74 fl_X2_27 (by first | assumption | exact ⟨by decide, rfl⟩) (by first | assumption | rfl) ?_
          refine V_getI dX2_weigh_77 fl_X2_94 (by first | assumption | exact ⟨by decide, rfl⟩) ?_
          refine V_aload_n dX2_weigh_80 rfl rfl ?_
          refine V_getR dX2_weigh_81 fl_X2_27 (by first | assumption | exact ⟨by decide, rfl⟩) (by first | assumption | rfl) ?_
          refine V_getR dX2_weigh_84 fl_X2_97 (by first | assumption | exact ⟨by decide, rfl⟩) (by first | assumption | rfl) ?_
          refine V_iload dX2_weigh_87 rfl ?_
          refine V_ial dX2_weigh_89 (by first | assumption | exact ⟨by decide, rfl⟩) ⟨rfl, by omega⟩ ?_
          refine V_aload_n dX2_weigh_90 rfl rfl ?_
          refine V_getR dX2_weigh_91 fl_X2_27 (by first | assumption | exact ⟨by decide, rfl⟩) (by first | assumption | rfl) ?_
          refine V_getR dX2_weigh_94 fl_X2_100 (by first | assumption | exact ⟨by decide, rfl⟩) (by first | assumption | rfl) ?_
          refine V_iload_n dX2_weigh_97 rfl rfl ?_
          refine V_ial dX2_weigh_98 (by first | assumption | exact ⟨by decide, rfl⟩) ⟨rfl, by omega⟩ ?_
          refine V_isub dX2_weigh_99 ?_
          refine V_abs dX2_weigh_100 ml_X2_103 (by first | decide | omega) (by simp [Value.category]) (by decide) (by decide) ?_
          refine V_imul dX2_weigh_103 (V_iadd dX2_weigh_104 (V_iadd dX2_weigh_105 (V_istore_5 dX2_weigh_106 (by decide) rfl ?_)))
          rw [(hX1.2.2.1 q hq).1, (hX1.2.2.2.2.1 i hi).1, abs_nI (hB.2.1 q hq).1 (hB.2.2.2.1 i hi).1, hX1.1.2.2.2.2.1, pk_mul, show (100 : Int32) = nI 100 from rfl, nI_add, nI_add]
          have e8 : trb K td sd q i = K 6 i - kpt K td sd q i + (100 + K 0 5 * adf (K 1 q) (K 4 i)) := by unfold trb; rw [if_neg how]
          rw [e8] at fin
          exact fin
  have h0 := key 0 (Nat.zero_le _) I (fun _ _ _ => rfl) (fun _ _ _ _ _ => rfl) (fun p hp => absurd hp (by omega))
  exact h0
/-- the least casting, as both sides find it -/
def lea (K : KT) (off cut td : Nat) (sd : Nat → Nat) : Nat × List Nat := bst (trb K td sd) 0 0 [] (CL (K 0 0) (okf K off) (ctf cut) (clashM K) (K 0 1) 0 (fun _ => 0)) (1000000, [])
theorem sp_findLeast (he : e = 4 ∨ e = 18) (hB : KB K) (hX : CoX I e K) (hS : SX I e K) (hD : DX I 32 td sd ow) (hDB : DB td sd) (hcut : cut < 2 ^ 31) (Kk : ∀ I', (∀ a b, a < 42 ∨ 47 < a → I' a b = I a b) → I' 42 8 = nI (lea K off cut td sd).1 → ((lea K off cut td sd).1 < 1000000 → ∀ j, j < K 0 1 → I' 47 j = owv ((lea K off cut td sd).2.getD j 0)) → Post (some (.int (b2i (decide ((lea K off cut td sd).1 < 1000000))))) NC I' J (RR co dr (some e) a1 a2)) : Cal E 13 M_X2_findLeast [.ref 42, .ref e, .ref 32, .int (nI off), .int (nI cut)] NC I J (RR co dr cc a1 a2) Post := by
  have hP := hB.1.1
  have hQ := hB.1.2.1
  obtain ⟨_, _, _, _, _, _, _, _, _, _, _, _, _, _, _, _, _, _, _, _, _, _, _⟩ := f_co (co := co) (dr := dr) (cc := some e) (a1 := a1) (a2 := a2) he
  refine Cal_of kn_X2_findLeast rfl (Nat.le_of_ble_eq_true rfl) ?_
  refine V_aload_n dX2_findLeast_0 rfl rfl (V_aload_n dX2_findLeast_1 rfl rfl (V_iload_n dX2_findLeast_2 rfl rfl (V_iload dX2_findLeast_3 rfl ?_)))
  refine V_cV3v (M' := M_X2_begin) (d' := 2) dX2_findLeast_5 (Or.inl ml_X2_56) kb_X2_begin (by first | assumption | exact ⟨by decide, rfl⟩) (by first | decide | omega) (by simp [Value.category]) ⟨by decide, by decide⟩ ?_
  refine sp_caBegin (by decide) (fun I1 h1 h2 h3 h4 h5 => ⟨rfl, ?_⟩)
  have hC1 : CaI I1 e K off cut := ⟨hX.of (fun a b q1 q2 => h1 a b (by omega) (by omega)), hS.of (fun b => ⟨h1 _ b (by omega) (by omega), h1 _ b (by omega) (by omega)⟩), h3, h4⟩
  refine V_aload_n dX2_findLeast_8 rfl rfl (V_ldc dX2_findLeast_9 ct_X2_73 ?_)
  refine V_putI dX2_findLeast_11 fl_X2_74 (by first | assumption | exact ⟨by decide, rfl⟩) ?_
  refine V_aload_n dX2_findLeast_14 rfl rfl ?_
  refine V_getR dX2_findLeast_15 fl_X2_21 (by first | assumption | exact ⟨by decide, rfl⟩) (by first | assumption | rfl) ?_
  refine V_aload_n dX2_findLeast_18 rfl rfl ?_
  refine V_getR dX2_findLeast_19 fl_X2_27 (by first | assumption | exact ⟨by decide, rfl⟩) (by first | assumption | rfl) ?_
  refine V_getI dX2_findLeast_22 fl_X2_64 (by first | assumption | exact ⟨by decide, rfl⟩) ?_
  refine V_iconst (v := 0) dX2_findLeast_25 (by decide) ?_
  refine V_ias dX2_findLeast_26 (by first | assumption | exact ⟨by decide, rfl⟩) ⟨(by rw [u2n (by omega)]; exact hC1.1.1.2.1), by omega⟩ ?_
  refine V_aload_n dX2_findLeast_27 rfl rfl ?_
  refine V_getR dX2_findLeast_28 fl_X2_27 (by first | assumption | exact ⟨by decide, rfl⟩) (by first | assumption | rfl) ?_
  refine V_getI dX2_findLeast_31 fl_X2_64 (by first | assumption | exact ⟨by decide, rfl⟩) ?_
  refine V_iconst (v := 1) dX2_findLeast_34 (by decide) (V_isub dX2_findLeast_35 (V_istore_5 dX2_findLeast_36 (by decide) rfl ?_))
  -- the floors, from the last part on
  have key : ∀ r i, i + r = K 0 1 → ∀ I2, (∀ a b, a < 42 ∨ 47 < a → I2 a b = I a b) → I2 42 1 = nI off → I2 42 2 = nI cut → I2 42 8 = nI 1000000 → (∀ p, p < 10 → I2 43 p = 0) → (∀ r' i', i' + r' = K 0 1 → i ≤ i' → I2 46 i' = nI (flo (K 0 0) (trb K td sd) (okf K off) (ctf cut) r' i')) → (∀ p j, p < K 0 0 → j < K 0 1 → i ≤ j → ctf cut j = false → okf K off p j = true → I2 45 (8 * p + j) = nI (trb K td sd p j)) → V E 13 M_X2_findLeast Post 38 [some (.ref 42), some (.ref e), some (.ref 32), some (.int (nI off)), some (.int (nI cut)), some (.int (nI i - 1))] [] NC 0 0 I2 J (RR co dr (some e) a1 a2) := by
    intro r i
    induction i generalizing r with
    | zero =>
      intro hr I2 g1 g2 g3 g4 g5 g6 g7
      have hC2 : CaI I2 e K off cut := ⟨hX.of (fun a b q1 q2 => g1 a b (by omega)), hS.of (fun b => ⟨g1 _ b (by omega), g1 _ b (by omega)⟩), g2, g3⟩
      refine V_iload dX2_findLeast_38 rfl ?_
      refine V_if_lt_t (tgt := 89) dX2_findLeast_40 (by decide) (by decide) ?_
      refine V_aload_n dX2_findLeast_89 rfl rfl (V_iconst (v := 0) dX2_findLeast_90 (by decide) (V_iconst (v := 0) dX2_findLeast_91 (by decide) ?_))
      refine V_cS3v (M' := M_X2_improveFrom) (d' := 12) dX2_findLeast_92 (Or.inl ml_X2_81) kb_X2_improveFrom (by first | decide | omega) (by simp [Value.category]) ⟨by decide, by decide⟩ ?_
      refine sp_improveFrom (td := td) (sd := sd) he hB hcut (K 0 1) 12 0 0 1000000 (fun _ => 0) [] [] I2 _ (by omega) (by omega) rfl (by omega) (by omega) hC2 ⟨fun r' i' hr' => g6 r' i' hr' (by omega), fun p j w1 w2 w3 w4 => g7 p j w1 w2 (by omega) w3 w4⟩ (fun p hp => by rw [g5 p hp, nI_0]) (fun p => by decide) (fun j hj => absurd hj (by omega)) g4 (fun hlt => absurd hlt (by omega)) (fun I3 m1 m2 m3 m4 m5 => ⟨rfl, ?_⟩)
      have hle : (lea K off cut td sd).1 ≤ 1000000 := (bst_le _ _ _ _ _ _).1
      have m4 : I3 42 8 = nI (lea K off cut td sd).1 := m4
      have kk := Kk I3 (fun a b hab => by rw [m1 a b (by omega) (by omega) (by omega)]; exact g1 a b hab) m4 m5
      by_cases hlt : (lea K off cut td sd).1 < 1000000
      · refine V_aload_n dX2_findLeast_95 rfl rfl ?_
        refine V_getI dX2_findLeast_96 fl_X2_74 (by first | assumption | exact ⟨by decide, rfl⟩) ?_
        refine V_ldc dX2_findLeast_99 ct_X2_73 ?_
        refine V_icmp_ge_f (tgt := 108) dX2_findLeast_101 (by decide) (by rw [m4]; exact nI_ge hlt (by decide)) ?_
        refine V_iconst (v := 1) dX2_findLeast_104 (by decide) (V_goto (tgt := 109) dX2_findLeast_105 (by decide) ?_)
        refine V_ireturn dX2_findLeast_109 rfl rfl rfl (by decide) (by decide) ?_
        rw [decide_eq_true hlt] at kk; exact kk
      · refine V_aload_n dX2_findLeast_95 rfl rfl ?_
        refine V_getI dX2_findLeast_96 fl_X2_74 (by first | assumption | exact ⟨by decide, rfl⟩) ?_
        refine V_ldc dX2_findLeast_99 ct_X2_73 ?_
        refine V_icmp_ge_t (tgt := 108) dX2_findLeast_101 (by decide) (by rw [m4]; exact nI_le (Nat.le_of_not_lt hlt) (Nat.lt_of_le_of_lt hle (by decide))) ?_
        refine V_iconst (v := 0) dX2_findLeast_108 (by decide) ?_
        refine V_ireturn dX2_findLeast_109 rfl rfl rfl (by decide) (by decide) ?_
        rw [decide_eq_false hlt] at kk; exact kk
    | succ i ih =>
      intro hr I2 g1 g2 g3 g4 g5 g6 g7
      have hC2 : CaI I2 e K off cut := ⟨hX.of (fun a b q1 q2 => g1 a b (by omega)), hS.of (fun b => ⟨g1 _ b (by omega), g1 _ b (by omega)⟩), g2, g3⟩
      have hD2 : DX I2 32 td sd ow := hD.of (fun a b q1 q2 => g1 a b (by omega))
      have hf6 := g6 r (i + 1) hr (Nat.le_refl _)
      rw [nI_pred]
      refine V_iload dX2_findLeast_38 rfl ?_
      refine V_if_lt_f (tgt := 89) dX2_findLeast_40 (by decide) (nI_pos (by omega)) ?_
      refine V_aload_n dX2_findLeast_43 rfl rfl ?_
      refine V_getR dX2_findLeast_44 fl_X2_21 (by first | assumption | exact ⟨by decide, rfl⟩) (by first | assumption | rfl) ?_
      refine V_iload dX2_findLeast_47 rfl (V_aload_n dX2_findLeast_49 rfl rfl ?_)
      refine V_getR dX2_findLeast_50 fl_X2_21 (by first | assumption | exact ⟨by decide, rfl⟩) (by first | assumption | rfl) ?_
      refine V_iload dX2_findLeast_53 rfl (V_iconst (v := 1) dX2_findLeast_55 (by decide) (V_iadd dX2_findLeast_56 ?_))
      refine V_ial dX2_findLeast_57 (by first | assumption | exact ⟨by decide, rfl⟩) (show ix _ (i + 1) 9 from ⟨nI_1 i, by omega⟩) ?_
      refine V_aload_n dX2_findLeast_58 rfl rfl ?_
      refine V_getI dX2_findLeast_59 fl_X2_35 (by first | assumption | exact ⟨by decide, rfl⟩) ?_
      refine V_iload dX2_findLeast_62 rfl ?_
      refine V_cS2i (M' := M_X10_has) (d' := 1) dX2_findLeast_64 (Or.inr ⟨_, ml_X2_49⟩) kb_X10_has (by first | decide | omega) (by simp [Value.category]) ⟨by decide, by decide⟩ ?_
      rw [hC2.2.2.2]
      refine sp_has hcut (by omega) ⟨_, rfl, ?_⟩
      rw [hf6]
      cases hct : cut.testBit i
      · have hct' : ctf cut i = false := hct
        refine V_if_eq_t (tgt := 74) dX2_findLeast_67 (by decide) (rfl) ?_
        refine V_aload_n dX2_findLeast_74 rfl rfl (V_aload_n dX2_findLeast_75 rfl rfl (V_iload dX2_findLeast_76 rfl ?_))
        refine V_cV2i (M' := M_X2_weigh) (d' := 3) dX2_findLeast_78 (Or.inl ml_X2_77) kb_X2_weigh (by first | assumption | exact ⟨by decide, rfl⟩) (by first | decide | omega) (by simp [Value.category]) ⟨by decide, by decide⟩ ?_
        refine sp_weigh he hB hC2 hD2 hDB (by omega) (fun I3 m1 m2 m3 => ⟨_, rfl, ?_⟩)
        refine V_iadd dX2_findLeast_81 ?_
        refine V_ias dX2_findLeast_82 (by first | assumption | exact ⟨by decide, rfl⟩) ⟨rfl, by omega⟩ ?_
        refine V_iinc_5 (w := (-1)) dX2_findLeast_83 (by decide) (by decide) rfl (V_goto (tgt := 38) dX2_findLeast_86 (by decide) ?_)
        rw [nI_add, show (-1 : Int32) = -1 from rfl, show nI i + -1 = nI i - 1 by rw [Int32.sub_eq_add_neg]]
        refine ih (r + 1) (by omega) _ (fun a b hab => ?_) ?_ ?_ ?_ (fun p hp => ?_) (fun r' i' hr' hii => ?_) (fun p j w1 w2 w3 w4 w5 => ?_)
        · rw [u2n (by omega), m1 a b (by omega)]; exact g1 a b hab
        · rw [u2n (by omega), m1 _ _ (by decide)]; exact g2
        · rw [u2n (by omega), m1 _ _ (by decide)]; exact g3
        · rw [u2n (by omega), m1 _ _ (by decide)]; exact g4
        · rw [u2n (by omega), m1 _ _ (by decide)]; exact g5 p hp
        · by_cases hie : i' = i
          · subst hie
            obtain rfl : r' = r + 1 := by omega
            rw [u2e]
            show _ = nI (flo _ _ _ _ r (i' + 1) + (if ctf cut i' = true then 0 else _))
            rw [if_neg (by rw [hct']; decide)]
          · rw [u2n (by omega), m1 _ _ (by decide)]; exact g6 r' i' hr' (by omega)
        · rw [u2n (by omega)]
          by_cases hji : j = i
          · subst hji; exact m3 p w1 w5
          · rw [m2 p j (by omega) (by omega) hji]; exact g7 p j w1 w2 (by omega) w4 w5
      · have hct' : ctf cut i = true := hct
        refine V_if_eq_f (tgt := 74) dX2_findLeast_67 (by decide) (by decide) ?_
        refine V_iconst (v := 0) dX2_findLeast_70 (by decide) (V_goto (tgt := 81) dX2_findLeast_71 (by decide) (V_iadd dX2_findLeast_81 ?_))
        refine V_ias dX2_findLeast_82 (by first | assumption | exact ⟨by decide, rfl⟩) ⟨rfl, by omega⟩ ?_
        refine V_iinc_5 (w := (-1)) dX2_findLeast_83 (by decide) (by decide) rfl (V_goto (tgt := 38) dX2_findLeast_86 (by decide) ?_)
        rw [show (0 : Int32) = nI 0 from nI_0.symm, nI_add, show nI i + -1 = nI i - 1 by rw [Int32.sub_eq_add_neg]]
        refine ih (r + 1) (by omega) _ (fun a b hab => ?_) ?_ ?_ ?_ (fun p hp => ?_) (fun r' i' hr' hii => ?_) (fun p j w1 w2 w3 w4 w5 => ?_)
        · rw [u2n (by omega)]; exact g1 a b hab
        · rw [u2n (by omega)]; exact g2
        · rw [u2n (by omega)]; exact g3
        · rw [u2n (by omega)]; exact g4
        · rw [u2n (by omega)]; exact g5 p hp
        · by_cases hie : i' = i
          · subst hie
            obtain rfl : r' = r + 1 := by omega
            rw [u2e]
            show _ = nI (flo _ _ _ _ r (i' + 1) + (if ctf cut i' = true then 0 else _))
            rw [if_pos hct']
          · rw [u2n (by omega)]; exact g6 r' i' hr' (by omega)
        · by_cases hji : j = i
          · subst hji; rw [hct'] at w4; cases w4
          · rw [u2n (by omega)]; exact g7 p j w1 w2 (by omega) w4 w5
  rw [u2n (by omega), u2n (by omega), hC1.1.1.2.1]
  refine key 0 (K 0 1) rfl _ (fun a b hab => ?_) ?_ ?_ ?_ (fun p hp => ?_) (fun r' i' hr' hii => ?_) (fun p j w1 w2 w3 w4 w5 => absurd w3 (by omega))
  · rw [u2n (by omega), u2n (by omega)]; exact h1 a b (by omega) (by omega)
  · rw [u2n (by omega), u2n (by omega)]; exact h3
  · rw [u2n (by omega), u2n (by omega)]; exact h4
  · rw [u2n (by omega), u2e]; rfl
  · rw [u2n (by omega), u2n (by omega)]; exact h5 p hp
  · obtain rfl : i' = K 0 1 := by omega
    obtain rfl : r' = 0 := by omega
    rw [u2e]; exact nI_0.symm
end
