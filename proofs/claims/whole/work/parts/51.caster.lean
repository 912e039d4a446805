/-! The Caster: free players, castings counted -/
def okf (K : KT) (off p i : Nat) : Bool := may K p i && !off.testBit p
def ctf (cut i : Nat) : Bool := cut.testBit i
/-- what the Caster stands on: the company, who is off, what is cut -/
def CaI (I : TI) (e : Nat) (K : KT) (off cut : Nat) : Prop := CoX I e K ∧ SX I e K ∧ I 42 1 = nI off ∧ I 42 2 = nI cut
theorem CaI.of {I I' : TI} {e : Nat} {K : KT} {off cut : Nat} (h : CaI I e K off cut) (he : ∀ a b, e ≤ a → a ≤ e + 13 → I' a b = I a b) (h1 : I' 42 1 = I 42 1) (h2 : I' 42 2 = I 42 2) : CaI I' e K off cut := ⟨h.1.of (fun a b q1 q2 => he a b q1 (by omega)), h.2.1.of (fun b => ⟨he _ b (by omega) (by omega), he _ b (by omega) (by omega)⟩), by rw [h1]; exact h.2.2.1, by rw [h2]; exact h.2.2.2⟩
theorem CaI.up {I : TI} {e : Nat} {K : KT} {off cut : Nat} (h : CaI I e K off cut) (he : e = 4 ∨ e = 18) {k s : Nat} {v : Int32} (hk : 43 ≤ k) : CaI (up2 I k s v) e K off cut := h.of (fun a b q1 q2 => up2_k I v b (by omega)) (up2_k I v 1 (by omega)) (up2_k I v 2 (by omega))
theorem up2_id {α : Type} (f : Nat → Nat → α) (k s : Nat) : up2 f k s (f k s) = f := by
  funext a b
  unfold up2
  by_cases h1 : a = k
  · by_cases h2 : b = s
    · simp [h1, h2]
    · simp [h2]
  · simp [h1]
theorem up2_id' {α : Type} {f : Nat → Nat → α} {k s : Nat} {v : α} (h : f k s = v) : up2 f k s v = f := by rw [← h]; exact up2_id f k s
theorem or_andn {a i : Nat} (h : a < 2 ^ i) : andn (a ||| 2 ^ i) (2 ^ i) = a := tb_ext (fun j => by
  rw [andn_tb, Nat.testBit_or, pow_tb]
  by_cases hj : i = j
  · subst hj; simp [tb_big h (Nat.le_refl _)]
  · simp [hj])
theorem clashM_lt (K : KT) (hB : KB K) (i : Nat) : clashM K i < 2 ^ 8 := Nat.lt_of_lt_of_le (mk_lt _ _) (Nat.pow_le_pow_right (by decide) hB.1.2.1)
theorem ableM_lt (K : KT) (hB : KB K) (i : Nat) : ableM K i < 2 ^ 10 := Nat.lt_of_lt_of_le (mk_lt _ _) (Nat.pow_le_pow_right (by decide) hB.1.1)
section
variable {E : En} {I : TI} {J : TJ} {co dr : Nat} {a1 a2 : Option Nat} {Post : PT} {e : Nat} {K : KT} {off cut : Nat}
theorem sp_isFree {d : Nat} (hd : 2 ≤ d) (he : e = 4 ∨ e = 18) (hB : KB K) (hC : CaI I e K off cut) {p i : Nat} (hp : p < K 0 0) (hi : i < K 0 1) {tk : Nat → Nat} (htk : I 43 p = nI (tk p)) (Kk : Post (some (.int (b2i (fre (okf K off) (clashM K) tk p i)))) NC I J (RR co dr (some e) a1 a2)) : Cal E d M_X2_isFree [.ref 42, .int (nI p), .int (nI i)] NC I J (RR co dr (some e) a1 a2) Post := by
  have hP := hB.1.1
  have hQ := hB.1.2.1
  obtain ⟨hX, hS, h1, h2⟩ := hC
  have cc : Option Nat := some e
  obtain ⟨_, _, _, _, _, _, _, _, _, _, _, _, _, _, _, _, _, _, _, _, _, _, _⟩ := f_co (co := co) (dr := dr) (cc := some e) (a1 := a1) (a2 := a2) he
  refine Cal_of kn_X2_isFree rfl (Nat.le_of_ble_eq_true rfl) ?_
  refine V_aload_n dX2_isFree_0 rfl rfl ?_
  refine V_getR dX2_isFree_1 fl_X2_27 (by first | assumption | exact ⟨by decide, rfl⟩) (by first | assumption | rfl) ?_
  refine V_getR dX2_isFree_4 fl_X2_44 (by first | assumption | exact ⟨by decide, rfl⟩) (by first | assumption | rfl) ?_
  refine V_iload_n dX2_isFree_7 rfl rfl ?_
  refine V_ial dX2_isFree_8 (by first | assumption | exact ⟨by decide, rfl⟩) ⟨rfl, by omega⟩ ?_
  refine V_aload_n dX2_isFree_9 rfl rfl ?_
  refine V_getI dX2_isFree_10 fl_X2_31 (by first | assumption | exact ⟨by decide, rfl⟩) ?_
  refine V_iconst (v := (-1)) dX2_isFree_13 (by decide) (V_ixor dX2_isFree_14 (V_iand dX2_isFree_15 (V_iload_n dX2_isFree_16 rfl rfl ?_)))
  refine V_cS2i (M' := M_X10_has) (d' := 1) dX2_isFree_17 (Or.inr ⟨_, ml_X2_49⟩) kb_X10_has (by first | decide | omega) (by simp [Value.category]) ⟨by decide, by decide⟩ ?_
  rw [(hS i hi).1, h1, andn_nI]
  refine sp_has (lt31 (andn_lt (ableM_lt K hB i)) (by decide)) (by omega) ⟨_, rfl, ?_⟩
  have eo : (andn (ableM K i) off).testBit p = okf K off p i := by
    rw [andn_tb]; unfold ableM okf; rw [mk_tb]; simp [hp]
  rw [eo]
  have hand : tk p &&& clashM K i < 2 ^ 8 := Nat.and_lt_two_pow _ (clashM_lt K hB i)
  cases hok : okf K off p i
  · refine V_if_eq_t (tgt := 46) dX2_isFree_20 (by decide) (rfl) ?_
    refine V_iconst (v := 0) dX2_isFree_46 (by decide) ?_
    refine V_ireturn dX2_isFree_47 rfl rfl rfl (by decide) (by decide) ?_
    have : fre (okf K off) (clashM K) tk p i = false := by simp [fre, hok]
    rw [this] at Kk; exact Kk
  · by_cases hz : tk p &&& clashM K i = 0
    · refine V_if_eq_f (tgt := 46) dX2_isFree_20 (by decide) (by decide) ?_
      refine V_aload_n dX2_isFree_23 rfl rfl ?_
      refine V_getR dX2_isFree_24 fl_X2_9 (by first | assumption | exact ⟨by decide, rfl⟩) (by first | assumption | rfl) ?_
      refine V_iload_n dX2_isFree_27 rfl rfl ?_
      refine V_ial dX2_isFree_28 (by first | assumption | exact ⟨by decide, rfl⟩) ⟨rfl, by omega⟩ ?_
      refine V_aload_n dX2_isFree_29 rfl rfl ?_
      refine V_getR dX2_isFree_30 fl_X2_27 (by first | assumption | exact ⟨by decide, rfl⟩) (by first | assumption | rfl) ?_
      refine V_getR dX2_isFree_33 fl_X2_53 (by first | assumption | exact ⟨by decide, rfl⟩) (by first | assumption | rfl) ?_
      refine V_iload_n dX2_isFree_36 rfl rfl ?_
      refine V_ial dX2_isFree_37 (by first | assumption | exact ⟨by decide, rfl⟩) ⟨rfl, by omega⟩ ?_
      refine V_iand dX2_isFree_38 ?_
      refine V_if_ne_f (tgt := 46) dX2_isFree_39 (by decide) (by rw [htk, (hS i hi).2, and_nI, hz]; rfl) ?_
      refine V_iconst (v := 1) dX2_isFree_42 (by decide) (V_goto (tgt := 47) dX2_isFree_43 (by decide) ?_)
      refine V_ireturn dX2_isFree_47 rfl rfl rfl (by decide) (by decide) ?_
      have : fre (okf K off) (clashM K) tk p i = true := by simp [fre, hok, hz]
      rw [this] at Kk; exact Kk
    · refine V_if_eq_f (tgt := 46) dX2_isFree_20 (by decide) (by decide) ?_
      refine V_aload_n dX2_isFree_23 rfl rfl ?_
      refine V_getR dX2_isFree_24 fl_X2_9 (by first | assumption | exact ⟨by decide, rfl⟩) (by first | assumption | rfl) ?_
      refine V_iload_n dX2_isFree_27 rfl rfl ?_
      refine V_ial dX2_isFree_28 (by first | assumption | exact ⟨by decide, rfl⟩) ⟨rfl, by omega⟩ ?_
      refine V_aload_n dX2_isFree_29 rfl rfl ?_
      refine V_getR dX2_isFree_30 fl_X2_27 (by first | assumption | exact ⟨by decide, rfl⟩) (by first | assumption | rfl) ?_
      refine V_getR dX2_isFree_33 fl_X2_53 (by first | assumption | exact ⟨by decide, rfl⟩) (by first | assumption | rfl) ?_
      refine V_iload_n dX2_isFree_36 rfl rfl ?_
      refine V_ial dX2_isFree_37 (by first | assumption | exact ⟨by decide, rfl⟩) ⟨rfl, by omega⟩ ?_
      refine V_iand dX2_isFree_38 ?_
      refine V_if_ne_t (tgt := 46) dX2_isFree_39 (by decide) (by rw [htk, (hS i hi).2, and_nI, ← nI_0]; exact fun z => hz ((nI_eq (by omega) (by decide)).mp z)) ?_
      refine V_iconst (v := 0) dX2_isFree_46 (by decide) ?_
      refine V_ireturn dX2_isFree_47 rfl rfl rfl (by decide) (by decide) ?_
      have : fre (okf K off) (clashM K) tk p i = false := by simp [fre, hz]
      rw [this] at Kk; exact Kk
theorem sp_countFrom (he : e = 4 ∨ e = 18) (hB : KB K) (hcut : cut < 2 ^ 31) : ∀ (r d i : Nat) (tk : Nat → Nat) (I : TI) (Post : PT), 3 + r ≤ d → i + r = K 0 1 → CaI I e K off cut → (∀ p, p < 10 → I 43 p = nI (tk p)) → (∀ p, tk p < 2 ^ i) → Post (some (.long (lN (CL (K 0 0) (okf K off) (ctf cut) (clashM K) r i tk).length))) NC I J (RR co dr (some e) a1 a2) → Cal E d M_X2_countFrom [.ref 42, .int (nI i)] NC I J (RR co dr (some e) a1 a2) Post := by
  have hP := hB.1.1
  have hQ := hB.1.2.1
  obtain ⟨_, _, _, _, _, _, _, _, _, _, _, _, _, _, _, _, _, _, _, _, _, _, _⟩ := f_co (co := co) (dr := dr) (cc := some e) (a1 := a1) (a2 := a2) he
  intro r
  induction r with
  | zero =>
    intro d i tk I Post hd hi hC htk hlt Kk
    refine Cal_of kn_X2_countFrom rfl (Nat.le_of_ble_eq_true rfl) ?_
    refine V_iload_n dX2_countFrom_0 rfl rfl (V_aload_n dX2_countFrom_1 rfl rfl ?_)
    refine V_getR dX2_countFrom_2 fl_X2_27 (by first | assumption | exact ⟨by decide, rfl⟩) (by first | assumption | rfl) ?_
    refine V_getI dX2_countFrom_5 fl_X2_64 (by first | assumption | exact ⟨by decide, rfl⟩) ?_
    refine V_icmp_lt_f (tgt := 13) dX2_countFrom_8 (by decide) (by rw [hC.1.1.2.1, lit_lt (by omega) (by omega)]; omega) ?_
    refine V_lconst (v := 1) dX2_countFrom_11 rfl ?_
    refine V_lreturn dX2_countFrom_12 rfl rfl (by decide) (by decide) ?_
    exact Kk
  | succ r ih =>
    intro d i tk I Post hd hi hC htk hlt Kk
    refine Cal_of kn_X2_countFrom rfl (Nat.le_of_ble_eq_true rfl) ?_
    refine V_iload_n dX2_countFrom_0 rfl rfl (V_aload_n dX2_countFrom_1 rfl rfl ?_)
    refine V_getR dX2_countFrom_2 fl_X2_27 (by first | assumption | exact ⟨by decide, rfl⟩) (by first | assumption | rfl) ?_
    refine V_getI dX2_countFrom_5 fl_X2_64 (by first | assumption | exact ⟨by decide, rfl⟩) ?_
    refine V_icmp_lt_t (tgt := 13) dX2_countFrom_8 (by decide) (by rw [hC.1.1.2.1, lit_lt (by omega) (by omega)]; omega) ?_
    refine V_aload_n dX2_countFrom_13 rfl rfl ?_
    refine V_getI dX2_countFrom_14 fl_X2_35 (by first | assumption | exact ⟨by decide, rfl⟩) ?_
    refine V_iload_n dX2_countFrom_17 rfl rfl ?_
    refine V_cS2i (M' := M_X10_has) (d' := 1) dX2_countFrom_18 (Or.inr ⟨_, ml_X2_49⟩) kb_X10_has (by first | decide | omega) (by simp [Value.category]) ⟨by decide, by decide⟩ ?_
    rw [hC.2.2.2]
    refine sp_has hcut (by omega) ⟨_, rfl, ?_⟩
    cases hct : cut.testBit i
    · have hct' : ctf cut i = false := hct
      rw [CL_all hct'] at Kk
      refine V_if_eq_t (tgt := 32) dX2_countFrom_21 (by decide) (rfl) ?_
      refine V_lconst (v := 0) dX2_countFrom_32 rfl (V_lstore_2 dX2_countFrom_33 (by decide) rfl (V_iconst (v := 0) dX2_countFrom_34 (by decide) (V_istore_4 dX2_countFrom_35 (by decide) rfl ?_)))
      have key : ∀ q, q ≤ K 0 0 → ∀ s, s + (CLp (K 0 0) (okf K off) (ctf cut) (clashM K) r i tk q).length = (CLp (K 0 0) (okf K off) (ctf cut) (clashM K) r i tk 0).length → V E d M_X2_countFrom Post 37 [some (.ref 42), some (.int (nI i)), some (.long (lN s)), none, some (.int (nI q))] [] NC 0 0 I J (RR co dr (some e) a1 a2) := by
        refine loop_up _ ?_ ?_
        · intro s hs
          rw [CLp_end (Nat.le_refl _)] at hs
          refine V_iload dX2_countFrom_37 rfl (V_aload_n dX2_countFrom_39 rfl rfl ?_)
          refine V_getR dX2_countFrom_40 fl_X2_27 (by first | assumption | exact ⟨by decide, rfl⟩) (by first | assumption | rfl) ?_
          refine V_getI dX2_countFrom_43 fl_X2_67 (by first | assumption | exact ⟨by decide, rfl⟩) ?_
          refine V_icmp_ge_t (tgt := 103) dX2_countFrom_46 (by decide) (by rw [hC.1.1.1]; exact nI_le (Nat.le_refl _) (by omega)) ?_
          refine V_lload_n dX2_countFrom_103 rfl rfl ?_
          refine V_lreturn dX2_countFrom_104 rfl rfl (by decide) (by decide) ?_
          rw [← hs] at Kk
          exact Kk
        · intro q hq ihq s hs
          refine V_iload dX2_countFrom_37 rfl (V_aload_n dX2_countFrom_39 rfl rfl ?_)
          refine V_getR dX2_countFrom_40 fl_X2_27 (by first | assumption | exact ⟨by decide, rfl⟩) (by first | assumption | rfl) ?_
          refine V_getI dX2_countFrom_43 fl_X2_67 (by first | assumption | exact ⟨by decide, rfl⟩) ?_
          refine V_icmp_ge_f (tgt := 103) dX2_countFrom_46 (by decide) (by rw [hC.1.1.1]; exact nI_ge hq (by omega)) ?_
          refine V_aload_n dX2_countFrom_49 rfl rfl (V_iload dX2_countFrom_50 rfl (V_iload_n dX2_countFrom_52 rfl rfl ?_))
          refine V_cV2i (M' := M_X2_isFree) (d' := 2) dX2_countFrom_53 (Or.inl ml_X2_70) kb_X2_isFree (by first | assumption | exact ⟨by decide, rfl⟩) (by first | decide | omega) (by simp [Value.category]) ⟨by decide, by decide⟩ ?_
          refine sp_isFree (by decide) he hB hC hq (by omega) (htk q (by omega)) ⟨_, rfl, ?_⟩
          cases hf : fre (okf K off) (clashM K) tk q i
          · rw [CLp_not hq hf] at hs
            refine V_if_eq_t (tgt := 97) dX2_countFrom_56 (by decide) (rfl) ?_
            refine V_iinc_4 (w := 1) dX2_countFrom_97 (by decide) (by decide) rfl (V_goto (tgt := 37) dX2_countFrom_100 (by decide) ?_)
            rw [nI_1]
            exact ihq s hs
          · rw [CLp_free hq hf, List.length_append, List.length_map] at hs
            refine V_if_eq_f (tgt := 97) dX2_countFrom_56 (by decide) (by decide) ?_
            refine V_aload_n dX2_countFrom_59 rfl rfl ?_
            refine V_getR dX2_countFrom_60 fl_X2_9 (by first | assumption | exact ⟨by decide, rfl⟩) (by first | assumption | rfl) ?_
            refine V_iload dX2_countFrom_63 rfl (V_dup2 dX2_countFrom_65 rfl rfl ?_)
            refine V_ial dX2_countFrom_66 (by first | assumption | exact ⟨by decide, rfl⟩) ⟨rfl, by omega⟩ ?_
            refine V_iconst (v := 1) dX2_countFrom_67 (by decide) (V_iload_n dX2_countFrom_68 rfl rfl (V_ishl dX2_countFrom_69 (V_ior dX2_countFrom_70 ?_)))
            refine V_ias dX2_countFrom_71 (by first | assumption | exact ⟨by decide, rfl⟩) ⟨rfl, by omega⟩ ?_
            refine V_lload_n dX2_countFrom_72 rfl rfl (V_aload_n dX2_countFrom_73 rfl rfl (V_iload_n dX2_countFrom_74 rfl rfl (V_iconst (v := 1) dX2_countFrom_75 (by decide) (V_iadd dX2_countFrom_76 ?_))))
            refine V_cS2l (M' := M_X2_countFrom) (d' := (d-1)) dX2_countFrom_77 (Or.inl ml_X2_60) kb_X2_countFrom (by first | decide | omega) (by simp [Value.category]) ⟨by decide, by decide⟩ ?_
            have hor : ∀ p, tset tk q i p < 2 ^ (i + 1) := fun p => by
              have h1 := hlt p
              have h2 : 2 ^ i ≤ 2 ^ (i + 1) := Nat.pow_le_pow_right (by decide) (by omega)
              unfold tset
              split
              · exact Nat.or_lt_two_pow (by omega) (Nat.pow_lt_pow_right (by decide) (by omega))
              · omega
            rw [htk q (by omega), shl1 (by omega), or_nI, nI_1]
            refine ih (d - 1) (i + 1) (tset tk q i) _ _ (by omega) (by omega) (hC.up he (by decide)) (fun p hp => ?_) hor ⟨_, rfl, ?_⟩
            · unfold tset
              by_cases hpq : p = q
              · subst hpq; rw [u2e, if_pos rfl]
              · rw [u2n (Or.inr hpq), if_neg hpq]; exact htk p hp
            · refine V_ladd dX2_countFrom_80 (V_lstore_2 dX2_countFrom_81 (by decide) rfl (V_aload_n dX2_countFrom_82 rfl rfl ?_))
              refine V_getR dX2_countFrom_83 fl_X2_9 (by first | assumption | exact ⟨by decide, rfl⟩) (by first | assumption | rfl) ?_
              refine V_iload dX2_countFrom_86 rfl (V_dup2 dX2_countFrom_88 rfl rfl ?_)
              refine V_ial dX2_countFrom_89 (by first | assumption | exact ⟨by decide, rfl⟩) ⟨rfl, by omega⟩ ?_
              refine V_iconst (v := 1) dX2_countFrom_90 (by decide) (V_iload_n dX2_countFrom_91 rfl rfl (V_ishl dX2_countFrom_92 (V_iconst (v := (-1)) dX2_countFrom_93 (by decide) (V_ixor dX2_countFrom_94 (V_iand dX2_countFrom_95 ?_)))))
              refine V_ias dX2_countFrom_96 (by first | assumption | exact ⟨by decide, rfl⟩) ⟨rfl, by omega⟩ ?_
              refine V_iinc_4 (w := 1) dX2_countFrom_97 (by decide) (by decide) rfl (V_goto (tgt := 37) dX2_countFrom_100 (by decide) ?_)
              rw [u2e, shl1 (by omega), andn_nI, or_andn (hlt q), up2_up2, up2_id' (htk q (by omega)), lN_add, nI_1]
              exact ihq _ (by omega)
      exact key 0 (Nat.zero_le _) 0 (by omega)
    · have hct' : ctf cut i = true := hct
      rw [CL_cut hct', List.length_map] at Kk
      refine V_if_eq_f (tgt := 32) dX2_countFrom_21 (by decide) (by decide) ?_
      refine V_aload_n dX2_countFrom_24 rfl rfl (V_iload_n dX2_countFrom_25 rfl rfl (V_iconst (v := 1) dX2_countFrom_26 (by decide) (V_iadd dX2_countFrom_27 ?_)))
      refine V_cS2l (M' := M_X2_countFrom) (d' := (d-1)) dX2_countFrom_28 (Or.inl ml_X2_60) kb_X2_countFrom (by first | decide | omega) (by simp [Value.category]) ⟨by decide, by decide⟩ ?_
      rw [nI_1]
      refine ih (d - 1) (i + 1) tk I _ (by omega) (by omega) hC htk (fun p => Nat.lt_of_lt_of_le (hlt p) (Nat.pow_le_pow_right (by decide) (by omega))) ⟨_, rfl, ?_⟩
      refine V_lreturn dX2_countFrom_31 rfl rfl (by decide) (by decide) ?_
      exact Kk
theorem sp_caBegin {d : Nat} (hd : 2 ≤ d) {cc : Option Nat} {o9 c9 : Int32} (Kk : ∀ I', (∀ a b, a ≠ 42 → a ≠ 43 → I' a b = I a b) → (∀ b, b ≠ 1 → b ≠ 2 → I' 42 b = I 42 b) → I' 42 1 = o9 → I' 42 2 = c9 → (∀ p, p < 10 → I' 43 p = 0) → Post none NC I' J (RR co dr (some e) a1 a2)) : Cal E d M_X2_begin [.ref 42, .ref e, .int o9, .int c9] NC I J (RR co dr cc a1 a2) Post := by
  refine Cal_of kn_X2_begin rfl (Nat.le_of_ble_eq_true rfl) ?_
  refine V_aload_n dX2_begin_0 rfl rfl (V_aload_n dX2_begin_1 rfl rfl ?_)
  refine V_putR dX2_begin_2 fl_X2_27 (by first | assumption | exact ⟨by decide, rfl⟩) ?_
  refine V_aload_n dX2_begin_5 rfl rfl (V_iload_n dX2_begin_6 rfl rfl ?_)
  refine V_putI dX2_begin_7 fl_X2_31 (by first | assumption | exact ⟨by decide, rfl⟩) ?_
  refine V_aload_n dX2_begin_10 rfl rfl (V_iload_n dX2_begin_11 rfl rfl ?_)
  refine V_putI dX2_begin_12 fl_X2_35 (by first | assumption | exact ⟨by decide, rfl⟩) ?_
  refine V_aload_n dX2_begin_15 rfl rfl ?_
  refine V_getR dX2_begin_16 fl_X2_9 (by first | assumption | exact ⟨by decide, rfl⟩) (by first | assumption | rfl) ?_
  refine V_iconst (v := 0) dX2_begin_19 (by decide) ?_
  refine V_cS2v (M' := M_J7_fill_53178) (d' := 1) dX2_begin_20 (Or.inl ml_X2_38) kb_J7_fill_53178 (by first | decide | omega) (by simp [Value.category]) ⟨by decide, by decide⟩ ?_
  rw [RR_cc]
  refine sp_fill (len := 10) ⟨by decide, rfl⟩ (fun I1 h1 => ⟨rfl, ?_⟩)
  refine V_return dX2_begin_23 rfl rfl (by decide) (by decide) ?_
  refine Kk I1 (fun a b g1 g2 => ?_) (fun b g1 g2 => ?_) ?_ ?_ (fun p hp => ?_)
  · rw [h1, if_neg (by omega), u2n (by omega), u2n (by omega)]
  · rw [h1, if_neg (by omega), u2n (by omega), u2n (by omega)]
  · rw [h1, if_neg (by omega), u2n (by omega), u2e]
  · rw [h1, if_neg (by omega), u2e]
  · rw [h1, if_pos ⟨rfl, hp⟩]
theorem sp_countCastings (he : e = 4 ∨ e = 18) (hB : KB K) (hX : CoX I e K) (hS : SX I e K) (hcut : cut < 2 ^ 31) {cc : Option Nat} (Kk : ∀ I', (∀ a b, a ≠ 42 → a ≠ 43 → I' a b = I a b) → (∀ b, b ≠ 1 → b ≠ 2 → I' 42 b = I 42 b) → Post (some (.long (lN (CL (K 0 0) (okf K off) (ctf cut) (clashM K) (K 0 1) 0 (fun _ => 0)).length))) NC I' J (RR co dr (some e) a1 a2)) : Cal E 13 M_X2_countCastings [.ref 42, .ref e, .int (nI off), .int (nI cut)] NC I J (RR co dr cc a1 a2) Post := by
  have hQ := hB.1.2.1
  refine Cal_of kn_X2_countCastings rfl (Nat.le_of_ble_eq_true rfl) ?_
  refine V_aload_n dX2_countCastings_0 rfl rfl (V_aload_n dX2_countCastings_1 rfl rfl (V_iload_n dX2_countCastings_2 rfl rfl (V_iload_n dX2_countCastings_3 rfl rfl ?_)))
  refine V_cV3v (M' := M_X2_begin) (d' := 2) dX2_countCastings_4 (Or.inl ml_X2_56) kb_X2_begin (by first | assumption | exact ⟨by decide, rfl⟩) (by first | decide | omega) (by simp [Value.category]) ⟨by decide, by decide⟩ ?_
  refine sp_caBegin (by decide) (fun I1 h1 h2 h3 h4 h5 => ⟨rfl, ?_⟩)
  have hC : CaI I1 e K off cut := ⟨hX.of (fun a b q1 q2 => h1 a b (by omega) (by omega)), hS.of (fun b => ⟨h1 _ b (by omega) (by omega), h1 _ b (by omega) (by omega)⟩), h3, h4⟩
  refine V_aload_n dX2_countCastings_7 rfl rfl (V_iconst (v := 0) dX2_countCastings_8 (by decide) ?_)
  refine V_cS2l (M' := M_X2_countFrom) (d' := 12) dX2_countCastings_9 (Or.inl ml_X2_60) kb_X2_countFrom (by first | decide | omega) (by simp [Value.category]) ⟨by decide, by decide⟩ ?_
  refine sp_countFrom he hB hcut (K 0 1) 12 0 (fun _ => 0) I1 _ (by omega) (by omega) hC (fun p hp => by rw [h5 p hp, nI_0]) (fun p => by decide) ⟨_, rfl, ?_⟩
  refine V_lreturn dX2_countCastings_12 rfl rfl (by decide) (by decide) ?_
  exact Kk I1 h1 h2
end
