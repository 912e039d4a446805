/-! The Attempt begun, given a part, and its answer; the Absences -/
noncomputable def dcd (p : Prop) : Bool := @decide p (Classical.propDecidable p)
theorem dcd_t {p : Prop} (h : p) : dcd p = true := @decide_eq_true p (Classical.propDecidable p) h
theorem dcd_f {p : Prop} (h : ¬ p) : dcd p = false := @decide_eq_false p (Classical.propDecidable p) h
theorem dcd_iff {p : Prop} : dcd p = true ↔ p := ⟨fun h => Classical.byContradiction (fun q => by rw [dcd_f q] at h; cases h), dcd_t⟩
theorem dcd_congr {p q : Prop} (h : p ↔ q) : dcd p = dcd q := by rw [propext h]
noncomputable def exB (K : KT) (opn : Nat) (left : Nat → Nat) : Bool := dcd (EX (clf K) opn left)
noncomputable def metB (K : KT) (off cut : Nat) : Bool := dcd (MET K off cut)
theorem metB_ex (K : KT) (off cut : Nat) : metB K off cut = exB K (opn0 (K 0 1) cut) (lft0 K off) := dcd_congr (MET_iff K off cut)
def ATT (I : TI) (a Q opn : Nat) (left : Nat → Nat) : Prop := I a 1 = nI opn ∧ ∀ j, j < Q → I (a + 1) j = nI (left j)
theorem opn0_nI {Q cut : Nat} (hQ : Q ≤ 8) : ((1 : Int32) <<< (nI Q &&& 31) - 1) &&& (nI cut ^^^ -1) = nI (opn0 Q cut) := by
  have e : nI (2 ^ Q) - 1 = nI (2 ^ Q - 1) := pk_sub (Nat.one_le_two_pow)
  rw [shl1 (by omega), e, andn_nI]
  rfl
theorem opn0_lt (Q cut : Nat) : opn0 Q cut < 2 ^ Q := andn_lt (by have := Nat.one_le_two_pow (n := Q); omega)
theorem lft0_lt (K : KT) (off i : Nat) : lft0 K off i < 2 ^ K 0 0 := andn_lt (mk_lt _ _)
section
variable {E : En} {I : TI} {J : TJ} {co dr : Nat} {cc a1 a2 : Option Nat} {Post : PT} {a e : Nat} {K : KT} {off cut : Nat}
theorem sp_atBegin5 {d : Nat} (ha : a = 50 ∨ a = 54) (he : e = 4 ∨ e = 18) (hB : KB K) (hX : CoX I e K) (hS : SX I e K) (hR : RR co dr cc a1 a2 a 0 = some e) (Kk : ∀ I', (∀ x y, x ≠ a → x ≠ a + 1 → I' x y = I x y) → ATT I' a (K 0 1) (opn0 (K 0 1) cut) (lft0 K off) → Post none NC I' J (RR co dr cc a1 a2)) : V E d M_X1_begin Post 5 [some (.ref a), some (.ref e), some (.int (nI off)), some (.int (nI cut)), none] [] NC 0 0 I J (RR co dr cc a1 a2) := by
  have hQ := hB.1.2.1
  obtain ⟨_, _, _⟩ := f_at (co := co) (dr := dr) (cc := cc) (a1 := a1) (a2 := a2) (ha)
  obtain ⟨_, _, _, _, _, _, _, _, _, _, _, _, _, _, _, _, _, _, _, _, _, _, _⟩ := f_co (co := co) (dr := dr) (cc := cc) (a1 := a1) (a2 := a2) (he)
  refine V_aload_n dX1_begin_5 rfl rfl (V_iconst (v := 1) dX1_begin_6 (by decide) (V_aload_n dX1_begin_7 rfl rfl ?_))
  refine V_getR dX1_begin_8 fl_X1_15 (by first | assumption | exact ⟨by decide, rfl⟩) (by first | assumption | rfl) ?_
  refine V_getI dX1_begin_11 fl_X1_19 (by first | assumption | exact ⟨by decide, rfl⟩) ?_
  refine V_ishl dX1_begin_14 (V_iconst (v := 1) dX1_begin_15 (by decide) (V_isub dX1_begin_16 (V_iload_n dX1_begin_17 rfl rfl (V_iconst (v := (-1)) dX1_begin_18 (by decide) (V_ixor dX1_begin_19 ?_)))))
  refine V_iand dX1_begin_20 ?_
  refine V_putI dX1_begin_21 fl_X1_25 (by first | assumption | exact ⟨by decide, rfl⟩) ?_
  refine V_iconst (v := 0) dX1_begin_24 (by decide) (V_istore_4 dX1_begin_25 (by decide) rfl ?_)
  rw [hX.1.2.1, opn0_nI hQ]
  have key : ∀ q, q ≤ K 0 1 → ∀ I1, (∀ x y, x ≠ a → x ≠ a + 1 → I1 x y = I x y) → I1 a 1 = nI (opn0 (K 0 1) cut) → (∀ j, j < q → I1 (a + 1) j = nI (lft0 K off j)) → V E d M_X1_begin Post 27 [some (.ref a), some (.ref e), some (.int (nI off)), some (.int (nI cut)), some (.int (nI q))] [] NC 0 0 I1 J (RR co dr cc a1 a2) := by
    refine loop_up _ ?_ ?_
    · intro I1 g1 g2 g3
      have hX1 : CoX I1 e K := hX.of (fun x y q1 q2 => g1 x y (by omega) (by omega))
      refine V_iload dX1_begin_27 rfl (V_aload_n dX1_begin_29 rfl rfl ?_)
      refine V_getR dX1_begin_30 fl_X1_15 (by first | assumption | exact ⟨by decide, rfl⟩) (by first | assumption | rfl) ?_
      refine V_getI dX1_begin_33 fl_X1_19 (by first | assumption | exact ⟨by decide, rfl⟩) ?_
      refine V_icmp_ge_t (tgt := 66) dX1_begin_36 (by decide) (by rw [hX1.1.2.1]; exact nI_le (Nat.le_refl _) (by omega)) ?_
      refine V_return dX1_begin_66 rfl rfl (by decide) (by decide) ?_
      exact Kk I1 g1 ⟨g2, g3⟩
    · intro q hq ih I1 g1 g2 g3
      have hX1 : CoX I1 e K := hX.of (fun x y q1 q2 => g1 x y (by omega) (by omega))
      have hS1 : SX I1 e K := hS.of (fun b => ⟨g1 _ b (by omega) (by omega), g1 _ b (by omega) (by omega)⟩)
      refine V_iload dX1_begin_27 rfl (V_aload_n dX1_begin_29 rfl rfl ?_)
      refine V_getR dX1_begin_30 fl_X1_15 (by first | assumption | exact ⟨by decide, rfl⟩) (by first | assumption | rfl) ?_
      refine V_getI dX1_begin_33 fl_X1_19 (by first | assumption | exact ⟨by decide, rfl⟩) ?_
      refine V_icmp_ge_f (tgt := 66) dX1_begin_36 (by decide) (by rw [hX1.1.2.1]; exact nI_ge hq (by omega)) ?_
      refine V_aload_n dX1_begin_39 rfl rfl ?_
      refine V_getR dX1_begin_40 fl_X1_9 (by first | assumption | exact ⟨by decide, rfl⟩) (by first | assumption | rfl) ?_
      refine V_iload dX1_begin_43 rfl (V_aload_n dX1_begin_45 rfl rfl ?_)
      refine V_getR dX1_begin_46 fl_X1_15 (by first | assumption | exact ⟨by decide, rfl⟩) (by first | assumption | rfl) ?_
      refine V_getR dX1_begin_49 fl_X1_28 (by first | assumption | exact ⟨by decide, rfl⟩) (by first | assumption | rfl) ?_
      refine V_iload dX1_begin_52 rfl ?_
      refine V_ial dX1_begin_54 (by first | assumption | exact ⟨by decide, rfl⟩) ⟨rfl, by omega⟩ ?_
      refine V_iload_n dX1_begin_55 rfl rfl (V_iconst (v := (-1)) dX1_begin_56 (by decide) (V_ixor dX1_begin_57 (V_iand dX1_begin_58 ?_)))
      refine V_ias dX1_begin_59 (by first | assumption | exact ⟨by decide, rfl⟩) (show ix _ q 72 from ⟨rfl, by omega⟩) ?_
      refine V_iinc_4 (w := 1) dX1_begin_60 (by decide) (by decide) rfl (V_goto (tgt := 27) dX1_begin_63 (by decide) ?_)
      rw [nI_1, (hS1 q hq).1, andn_nI]
      refine ih _ (fun x y h1 h2 => ?_) ?_ (fun j hj => ?_)
      · rw [u2n (by omega)]; exact g1 x y h1 h2
      · rw [u2n (by omega)]; exact g2
      · by_cases hjq : j = q
        · subst hjq; rw [u2e]; rfl
        · rw [u2n (by omega)]; exact g3 j (by omega)
  refine key 0 (Nat.zero_le _) _ (fun x y h1 h2 => by rw [u2n (by omega)]) (by rw [u2e]) (fun j hj => absurd hj (by omega))
theorem sp_atBegin {d : Nat} (ha : a = 50 ∨ a = 54) (he : e = 4 ∨ e = 18) (hB : KB K) (hX : CoX I e K) (hS : SX I e K) (Kk : ∀ I', (∀ x y, x ≠ a → x ≠ a + 1 → I' x y = I x y) → ATT I' a (K 0 1) (opn0 (K 0 1) cut) (lft0 K off) → Post none NC I' J (RR co dr cc (at1 a e a1) (at2 a e a2))) : Cal E d M_X1_begin [.ref a, .ref e, .int (nI off), .int (nI cut)] NC I J (RR co dr cc a1 a2) Post := by
  obtain ⟨_, _, _⟩ := f_at (co := co) (dr := dr) (cc := cc) (a1 := a1) (a2 := a2) (ha)
  refine Cal_of kn_X1_begin rfl (Nat.le_of_ble_eq_true rfl) ?_
  refine V_aload_n dX1_begin_0 rfl rfl (V_aload_n dX1_begin_1 rfl rfl ?_)
  refine V_putR dX1_begin_2 fl_X1_15 (by first | assumption | exact ⟨by decide, rfl⟩) ?_
  rw [RR_at ha]
  exact sp_atBegin5 ha he hB hX hS (RR_at0 ha) Kk
theorem sp_give {d : Nat} (hd : 2 ≤ d) (ha : a = 50 ∨ a = 54) (he : e = 4 ∨ e = 18) (hB : KB K) (hX : CoX I e K) (hS : SX I e K) (hR : RR co dr cc a1 a2 a 0 = some e) {opn p i : Nat} {left : Nat → Nat} (hA : ATT I a (K 0 1) opn left) (hp : p < 10) (hi : i < K 0 1) (Kk : ∀ I', (∀ x y, x ≠ a → x ≠ a + 1 → I' x y = I x y) → ATT I' a (K 0 1) (andn opn (2 ^ i)) (lst2 (clf K) left i p) → Post none NC I' J (RR co dr cc a1 a2)) : Cal E d M_X1_give [.ref a, .int (nI p), .int (nI i)] NC I J (RR co dr cc a1 a2) Post := by
  have hQ := hB.1.2.1
  have hcm31 : clashM K i < 2 ^ 31 := lt31 (clashM_lt K hB i) (by decide)
  obtain ⟨_, _, _⟩ := f_at (co := co) (dr := dr) (cc := cc) (a1 := a1) (a2 := a2) (ha)
  obtain ⟨_, _, _, _, _, _, _, _, _, _, _, _, _, _, _, _, _, _, _, _, _, _, _⟩ := f_co (co := co) (dr := dr) (cc := cc) (a1 := a1) (a2 := a2) (he)
  refine Cal_of kn_X1_give rfl (Nat.le_of_ble_eq_true rfl) ?_
  refine V_aload_n dX1_give_0 rfl rfl (V_dup dX1_give_1 rfl ?_)
  refine V_getI dX1_give_2 fl_X1_25 (by first | assumption | exact ⟨by decide, rfl⟩) ?_
  refine V_iconst (v := 1) dX1_give_5 (by decide) (V_iload_n dX1_give_6 rfl rfl (V_ishl dX1_give_7 (V_iconst (v := (-1)) dX1_give_8 (by decide) (V_ixor dX1_give_9 (V_iand dX1_give_10 ?_)))))
  refine V_putI dX1_give_11 fl_X1_25 (by first | assumption | exact ⟨by decide, rfl⟩) ?_
  refine V_iconst (v := 0) dX1_give_14 (by decide) (V_istore_3 dX1_give_15 (by decide) rfl ?_)
  rw [hA.1, shl1 (by omega), andn_nI]
  have key : ∀ q, q ≤ K 0 1 → ∀ I1, (∀ x y, x ≠ a → x ≠ a + 1 → I1 x y = I x y) → I1 a 1 = nI (andn opn (2 ^ i)) → (∀ j, j < K 0 1 → I1 (a + 1) j = nI (if j < q then lst2 (clf K) left i p j else left j)) → V E d M_X1_give Post 16 [some (.ref a), some (.int (nI p)), some (.int (nI i)), some (.int (nI q))] [] NC 0 0 I1 J (RR co dr cc a1 a2) := by
    refine loop_up _ ?_ ?_
    · intro I1 g1 g2 g3
      have hX1 : CoX I1 e K := hX.of (fun x y q1 q2 => g1 x y (by omega) (by omega))
      refine V_iload_n dX1_give_16 rfl rfl (V_aload_n dX1_give_17 rfl rfl ?_)
      refine V_getR dX1_give_18 fl_X1_15 (by first | assumption | exact ⟨by decide, rfl⟩) (by first | assumption | rfl) ?_
      refine V_getI dX1_give_21 fl_X1_19 (by first | assumption | exact ⟨by decide, rfl⟩) ?_
      refine V_icmp_ge_t (tgt := 63) dX1_give_24 (by decide) (by rw [hX1.1.2.1]; exact nI_le (Nat.le_refl _) (by omega)) ?_
      refine V_return dX1_give_63 rfl rfl (by decide) (by decide) ?_
      exact Kk I1 g1 ⟨g2, fun j hj => by rw [g3 j hj, if_pos hj]⟩
    · intro q hq ih I1 g1 g2 g3
      have hX1 : CoX I1 e K := hX.of (fun x y q1 q2 => g1 x y (by omega) (by omega))
      have hS1 : SX I1 e K := hS.of (fun b => ⟨g1 _ b (by omega) (by omega), g1 _ b (by omega) (by omega)⟩)
      refine V_iload_n dX1_give_16 rfl rfl (V_aload_n dX1_give_17 rfl rfl ?_)
      refine V_getR dX1_give_18 fl_X1_15 (by first | assumption | exact ⟨by decide, rfl⟩) (by first | assumption | rfl) ?_
      refine V_getI dX1_give_21 fl_X1_19 (by first | assumption | exact ⟨by decide, rfl⟩) ?_
      refine V_icmp_ge_f (tgt := 63) dX1_give_24 (by decide) (by rw [hX1.1.2.1]; exact nI_ge hq (by omega)) ?_
      refine V_aload_n dX1_give_27 rfl rfl ?_
      refine V_getR dX1_give_28 fl_X1_15 (by first | assumption | exact ⟨by decide, rfl⟩) (by first | assumption | rfl) ?_
      refine V_getR dX1_give_31 fl_X1_31 (by first | assumption | exact ⟨by decide, rfl⟩) (by first | assumption | rfl) ?_
      refine V_iload_n dX1_give_34 rfl rfl ?_
      refine V_ial dX1_give_35 (by first | assumption | exact ⟨by decide, rfl⟩) ⟨rfl, by omega⟩ ?_
      refine V_iload_n dX1_give_36 rfl rfl ?_
      refine V_cS2i (M' := M_X10_has) (d' := 1) dX1_give_37 (Or.inr ⟨_, ml_X1_34⟩) kb_X10_has (by first | decide | omega) (by simp [Value.category]) ⟨by decide, by decide⟩ ?_
      rw [(hS1 i hi).2]
      refine sp_has hcm31 (by omega) ⟨_, rfl, ?_⟩
      rw [clashM_tb K hi]
      cases hc : clf K i q
      · refine V_if_eq_t (tgt := 57) dX1_give_40 (by decide) (rfl) ?_
        refine V_iinc_3 (w := 1) dX1_give_57 (by decide) (by decide) rfl (V_goto (tgt := 16) dX1_give_60 (by decide) ?_)
        rw [nI_1]
        refine ih I1 g1 g2 (fun j hj => ?_)
        rw [g3 j hj]
        by_cases hjq : j = q
        · subst hjq
          rw [if_neg (by omega), if_pos (by omega)]
          unfold lst2
          rw [if_neg (by rw [hc]; decide)]
        · by_cases hjl : j < q
          · rw [if_pos hjl, if_pos (by omega)]
          · rw [if_neg hjl, if_neg (by omega)]
      · refine V_if_eq_f (tgt := 57) dX1_give_40 (by decide) (by decide) ?_
        refine V_aload_n dX1_give_43 rfl rfl ?_
        refine V_getR dX1_give_44 fl_X1_9 (by first | assumption | exact ⟨by decide, rfl⟩) (by first | assumption | rfl) ?_
        refine V_iload_n dX1_give_47 rfl rfl (V_dup2 dX1_give_48 rfl rfl ?_)
        refine V_ial dX1_give_49 (by first | assumption | exact ⟨by decide, rfl⟩) (show ix _ q 72 from ⟨rfl, by omega⟩) ?_
        refine V_iconst (v := 1) dX1_give_50 (by decide) (V_iload_n dX1_give_51 rfl rfl (V_ishl dX1_give_52 (V_iconst (v := (-1)) dX1_give_53 (by decide) (V_ixor dX1_give_54 (V_iand dX1_give_55 ?_)))))
        refine V_ias dX1_give_56 (by first | assumption | exact ⟨by decide, rfl⟩) (show ix _ q 72 from ⟨rfl, by omega⟩) ?_
        refine V_iinc_3 (w := 1) dX1_give_57 (by decide) (by decide) rfl (V_goto (tgt := 16) dX1_give_60 (by decide) ?_)
        rw [nI_1, g3 q hq, if_neg (by omega), shl1 (by omega), andn_nI]
        refine ih _ (fun x y h1 h2 => ?_) ?_ (fun j hj => ?_)
        · rw [u2n (by omega)]; exact g1 x y h1 h2
        · rw [u2n (by omega)]; exact g2
        · by_cases hjq : j = q
          · subst hjq
            rw [u2e, if_pos (by omega)]
            unfold lst2
            rw [if_pos hc]
          · rw [u2n (by omega), g3 j hj]
            by_cases hjl : j < q
            · rw [if_pos hjl, if_pos (by omega)]
            · rw [if_neg hjl, if_neg (by omega)]
  refine key 0 (Nat.zero_le _) _ (fun x y h1 h2 => by rw [u2n (by omega)]) (by rw [u2e]) (fun j hj => by rw [u2n (by omega), hA.2 j hj, if_neg (by omega)])
theorem sp_succeeds {d : Nat} (hd : 12 ≤ d) (ha : a = 50 ∨ a = 54) (he : e = 4 ∨ e = 18) (hB : KB K) (hX : CoX I e K) (hS : SX I e K) (hR : RR co dr cc a1 a2 a 0 = some e) {opn : Nat} {left : Nat → Nat} (hA : ATT I a (K 0 1) opn left) (ho : opn < 2 ^ K 0 1) (hl : ∀ j, j < K 0 1 → left j < 2 ^ K 0 0) (Kk : ∀ I', (∀ x y, x ≠ a + 1 → I' x y = I x y) → Post (some (.int (b2i (exB K opn left)))) NC I' J (RR co dr cc a1 a2)) : Cal E d M_X1_succeeds [.ref a] NC I J (RR co dr cc a1 a2) Post := by
  obtain ⟨_, _, _⟩ := f_at (co := co) (dr := dr) (cc := cc) (a1 := a1) (a2 := a2) (ha)
  refine Cal_of kn_X1_succeeds rfl (Nat.le_of_ble_eq_true rfl) ?_
  refine V_aload_n dX1_succeeds_0 rfl rfl (V_aload_n dX1_succeeds_1 rfl rfl ?_)
  refine V_getI dX1_succeeds_2 fl_X1_25 (by first | assumption | exact ⟨by decide, rfl⟩) ?_
  refine V_iconst (v := 0) dX1_succeeds_5 (by decide) ?_
  refine V_cS3i (M' := M_X1_canFill) (d' := 11) dX1_succeeds_6 (Or.inl ml_X1_38) kb_X1_canFill (by first | decide | omega) (by simp [Value.category]) ⟨by decide, by decide⟩ ?_
  rw [hA.1]
  refine sp_canFill ha he hB hR 8 11 0 opn left I _ (by omega) (by omega) (fb_ct_le _ 8) ho hX hS (fun j hj _ => ⟨by rw [Nat.mul_zero, Nat.zero_add]; exact hA.2 j hj, hl j hj⟩) (fun I' g h => ⟨_, rfl, ?_⟩) (fun I' g h => ⟨_, rfl, ?_⟩)
  · refine V_ireturn dX1_succeeds_9 rfl rfl rfl (by decide) (by decide) ?_
    have := Kk I' (fun x y hx => g x y (Or.inl hx))
    rw [exB, dcd_t h] at this
    exact this
  · refine V_ireturn dX1_succeeds_9 rfl rfl rfl (by decide) (by decide) ?_
    have := Kk I' (fun x y hx => g x y (Or.inl hx))
    rw [exB, dcd_f h] at this
    exact this
end
