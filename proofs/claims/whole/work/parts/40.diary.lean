/-! The diary: today, who said what when, what is owed -/
def DX (I : TI) (c td : Nat) (sd : Nat → Nat) (ow : Nat → Int32) : Prop := I c 0 = nI td ∧ (∀ j, j < 80 → I (c + 2) j = nI (sd j)) ∧ (∀ p, p < 10 → I (c + 1) p = ow p)
def DB (td : Nat) (sd : Nat → Nat) : Prop := td ≤ 100000 ∧ ∀ j, sd j ≤ td
def kpt (K : KT) (td : Nat) (sd : Nat → Nat) (p i : Nat) : Nat := K 6 i * (100 - K 0 6 * (td - sd (8 * p + i))) / 100
def pay (K : KT) (p a : Nat) : Nat := K 0 7 + K 0 8 * lsum K (andn a (mk (fun i => decide (K 7 i = p + 1)) (K 0 1))) / 10
def pnOw (K : KT) (ow : Nat → Int32) (p a : Nat) : Nat → Int32 := fun q => if q = p ∧ a ≠ 0 then ow q + nI (pay K p a) else ow q
def pnSd (Q td : Nat) (sd : Nat → Nat) (p a : Nat) : Nat → Nat := fun j => if j / 8 = p ∧ j % 8 < Q ∧ a.testBit (j % 8) = true then td else sd j
theorem kpt_le (K : KT) (td : Nat) (sd : Nat → Nat) (p i : Nat) : kpt K td sd p i ≤ K 6 i := by
  unfold kpt
  have h : K 6 i * (100 - K 0 6 * (td - sd (8 * p + i))) ≤ K 6 i * 100 := Nat.mul_le_mul_left _ (by omega)
  omega
theorem lsum_le {K : KT} (hB : KB K) (a : Nat) : lsum K a ≤ 7992 := by
  have h := fb_sm_bound (f := fun i => if a.testBit i then K 6 i else 0) (c := 999) (n := K 0 1) (fun k hk => by
    have := (hB.2.2.2.1 k hk).2.2.2.1
    split <;> omega)
  have hQ := hB.1.2.1
  have : K 0 1 * 999 ≤ 8 * 999 := Nat.mul_le_mul_right _ hQ
  unfold lsum
  omega
theorem DX.of {I I' : TI} {c td : Nat} {sd : Nat → Nat} {ow : Nat → Int32} (h : DX I c td sd ow) (he : ∀ a b, c ≤ a → a ≤ c + 2 → I' a b = I a b) : DX I' c td sd ow := ⟨by rw [he _ _ (by omega) (by omega)]; exact h.1, fun j hj => by rw [he _ _ (by omega) (by omega)]; exact h.2.1 j hj, fun p hp => by rw [he _ _ (by omega) (by omega)]; exact h.2.2 p hp⟩
section
variable {E : En} {I : TI} {J : TJ} {co dr : Nat} {cc a1 a2 : Option Nat} {Post : PT} {c e : Nat} {K : KT} {td : Nat} {sd : Nat → Nat} {ow : Nat → Int32}
theorem sp_diClear (hc : c = 32 ∨ c = 35 ∨ c = 38) (Kk : ∀ I', (∀ q z, (q < c ∨ c + 2 < q) → I' q z = I q z) → DX I' c 0 (fun _ => 0) (fun _ => 0) → Post none NC I' J (RR co dr cc a1 a2)) : Cal E 2 M_X4_clear [.ref c] NC I J (RR co dr cc a1 a2) Post := by
  obtain ⟨_, _, _, _, _⟩ := f_di (co := co) (dr := dr) (cc := cc) (a1 := a1) (a2 := a2) (hc)
  refine Cal_of kn_X4_clear rfl (Nat.le_of_ble_eq_true rfl) ?_
  refine V_aload_n dX4_clear_0 rfl rfl (V_iconst (v := 0) dX4_clear_1 (by decide) ?_)
  refine V_putI dX4_clear_2 fl_X4_18 (by first | assumption | exact ⟨by decide, rfl⟩) ?_
  refine V_aload_n dX4_clear_5 rfl rfl ?_
  refine V_getR dX4_clear_6 fl_X4_9 (by first | assumption | exact ⟨by decide, rfl⟩) (by first | assumption | rfl) ?_
  refine V_iconst (v := 0) dX4_clear_9 (by decide) ?_
  refine V_cS2v (M' := M_J7_fill_53178) (d' := 1) dX4_clear_10 (Or.inl ml_X4_22) kb_J7_fill_53178 (by first | decide | omega) (by simp [Value.category]) ⟨by decide, by decide⟩ ?_
  refine sp_fill (len := 10) (by assumption) (fun I1 h1 => ⟨rfl, ?_⟩)
  refine V_aload_n dX4_clear_13 rfl rfl ?_
  refine V_getR dX4_clear_14 fl_X4_15 (by first | assumption | exact ⟨by decide, rfl⟩) (by first | assumption | rfl) ?_
  refine V_iconst (v := 0) dX4_clear_17 (by decide) ?_
  refine V_cS2v (M' := M_J7_fill_53178) (d' := 1) dX4_clear_18 (Or.inl ml_X4_22) kb_J7_fill_53178 (by first | decide | omega) (by simp [Value.category]) ⟨by decide, by decide⟩ ?_
  refine sp_fill (len := 80) (by assumption) (fun I2 h2 => ⟨rfl, ?_⟩)
  refine V_return dX4_clear_21 rfl rfl (by decide) (by decide) ?_
  refine Kk _ (fun q z hq => ?_) ⟨?_, fun j hj => ?_, fun p hp => ?_⟩
  · rw [h2, if_neg (by omega), h1, if_neg (by omega), u2n (by omega)]
  · rw [h2, if_neg (by omega), h1, if_neg (by omega), u2e, nI_0]
  · rw [h2, if_pos ⟨rfl, hj⟩, nI_0]
  · rw [h2, if_neg (by omega), h1, if_pos ⟨rfl, hp⟩]
theorem sp_diCopy (hc : c = 32 ∨ c = 35 ∨ c = 38) (he : e = 32 ∨ e = 35 ∨ e = 38) (hce : c ≠ e) (hD : DX I e td sd ow) (Kk : ∀ I', (∀ q z, (q < c ∨ c + 2 < q) → I' q z = I q z) → DX I' c td sd ow → Post none NC I' J (RR co dr cc a1 a2)) : Cal E 1 M_X4_copy [.ref c, .ref e] NC I J (RR co dr cc a1 a2) Post := by
  obtain ⟨_, _, _, _, _⟩ := f_di (co := co) (dr := dr) (cc := cc) (a1 := a1) (a2 := a2) (hc)
  obtain ⟨_, _, _, _, _⟩ := f_di (co := co) (dr := dr) (cc := cc) (a1 := a1) (a2 := a2) (he)
  refine Cal_of kn_X4_copy rfl (Nat.le_of_ble_eq_true rfl) ?_
  refine V_aload_n dX4_copy_0 rfl rfl (V_aload_n dX4_copy_1 rfl rfl ?_)
  refine V_getI dX4_copy_2 fl_X4_18 (by first | assumption | exact ⟨by decide, rfl⟩) ?_
  refine V_putI dX4_copy_5 fl_X4_18 (by first | assumption | exact ⟨by decide, rfl⟩) ?_
  refine V_aload_n dX4_copy_8 rfl rfl ?_
  refine V_getR dX4_copy_9 fl_X4_9 (by first | assumption | exact ⟨by decide, rfl⟩) (by first | assumption | rfl) ?_
  refine V_iconst (v := 0) dX4_copy_12 (by decide) (V_aload_n dX4_copy_13 rfl rfl ?_)
  refine V_getR dX4_copy_14 fl_X4_9 (by first | assumption | exact ⟨by decide, rfl⟩) (by first | assumption | rfl) ?_
  refine V_iconst (v := 0) dX4_copy_17 (by decide) (V_bipush (v := 10) dX4_copy_18 (by decide) ?_)
  refine V_copy dX4_copy_20 ml_X4_28 (by first | assumption | exact ⟨by decide, rfl⟩) (by first | assumption | exact ⟨by decide, rfl⟩) (by decide) (by decide) (by decide) (by decide) (by decide) (by first | decide | omega) (by decide) ?_
  refine V_aload_n dX4_copy_23 rfl rfl ?_
  refine V_getR dX4_copy_24 fl_X4_15 (by first | assumption | exact ⟨by decide, rfl⟩) (by first | assumption | rfl) ?_
  refine V_iconst (v := 0) dX4_copy_27 (by decide) (V_aload_n dX4_copy_28 rfl rfl ?_)
  refine V_getR dX4_copy_29 fl_X4_15 (by first | assumption | exact ⟨by decide, rfl⟩) (by first | assumption | rfl) ?_
  refine V_iconst (v := 0) dX4_copy_32 (by decide) (V_bipush (v := 80) dX4_copy_33 (by decide) ?_)
  refine V_copy dX4_copy_35 ml_X4_28 (by first | assumption | exact ⟨by decide, rfl⟩) (by first | assumption | exact ⟨by decide, rfl⟩) (by decide) (by decide) (by decide) (by decide) (by decide) (by first | decide | omega) (by decide) ?_
  refine V_return dX4_copy_38 rfl rfl (by decide) (by decide) ?_
  refine Kk _ (fun q z hq => ?_) ⟨?_, fun j hj => ?_, fun p hp => ?_⟩
  · have h1 : q ≠ c + 1 := by omega
    have h2 : q ≠ c + 2 := by omega
    have h3 : q ≠ c := by omega
    simp [cpy2, up2, h1, h2, h3]
  · simp [cpy2, up2]; exact hD.1
  · have h1 : e + 2 ≠ c + 1 := by omega
    have h2 : e + 2 ≠ c := by omega
    have e80 : (80 : Int32).toNatClampNeg = 80 := by decide
    have e0 : (0 : Int32).toNatClampNeg = 0 := by decide
    have h3 : e ≠ c := fun z => hce z.symm
    have : j < 80 := hj
    simp [cpy2, up2, va_cpy, e80, e0, hj, h1, h2]
    exact hD.2.1 j hj
  · have e10 : (10 : Int32).toNatClampNeg = 10 := by decide
    have e0 : (0 : Int32).toNatClampNeg = 0 := by decide
    have h2 : e + 1 ≠ c := by omega
    simp [cpy2, up2, va_cpy, e10, e0, hp, h2]
    exact hD.2.2 p hp
theorem sp_sayToday (hc : c = 32 ∨ c = 35 ∨ c = 38) {p i : Nat} (hp : p < 10) (hi : i < 8) (Kk : Post none NC (up2 I (c + 2) (8 * p + i) (I c 0)) J (RR co dr cc a1 a2)) : Cal E 1 M_X4_sayToday [.ref c, .int (nI p), .int (nI i)] NC I J (RR co dr cc a1 a2) Post := by
  obtain ⟨_, _, _, _, _⟩ := f_di (co := co) (dr := dr) (cc := cc) (a1 := a1) (a2 := a2) (hc)
  refine Cal_of kn_X4_sayToday rfl (Nat.le_of_ble_eq_true rfl) ?_
  refine V_aload_n dX4_sayToday_0 rfl rfl ?_
  refine V_getR dX4_sayToday_1 fl_X4_15 (by first | assumption | exact ⟨by decide, rfl⟩) (by first | assumption | rfl) ?_
  refine V_iload_n dX4_sayToday_4 rfl rfl (V_bipush (v := 8) dX4_sayToday_5 (by decide) (V_imul dX4_sayToday_7 (V_iload_n dX4_sayToday_8 rfl rfl (V_iadd dX4_sayToday_9 (V_aload_n dX4_sayToday_10 rfl rfl ?_)))))
  refine V_getI dX4_sayToday_11 fl_X4_18 (by first | assumption | exact ⟨by decide, rfl⟩) ?_
  refine V_ias dX4_sayToday_14 (by first | assumption | exact ⟨by decide, rfl⟩) (show ix _ (8 * p + i) 80 from ⟨(by rw [show (8 : Int32) = nI 8 from rfl, pk_mul, nI_add, Nat.mul_comm]), by omega⟩) ?_
  refine V_return dX4_sayToday_15 rfl rfl (by decide) (by decide) ?_
  exact Kk
theorem sp_keptLines (hc : c = 32 ∨ c = 35 ∨ c = 38) (he : e = 4 ∨ e = 18) (hB : KB K) (hX : CoX I e K) (hD : DX I c td sd ow) (hDB : DB td sd) {p i : Nat} (hp : p < 10) (hi : i < K 0 1) (Kk : Post (some (.int (nI (kpt K td sd p i)))) NC I J (RR co dr cc a1 a2)) : Cal E 1 M_X4_keptLines [.ref c, .ref e, .int (nI p), .int (nI i)] NC I J (RR co dr cc a1 a2) Post := by
  have hQ := hB.1.2.1
  have hfo : K 0 6 ≤ 99 := hB.1.2.2.2.2.2.2.1
  have hln := (hB.2.2.2.1 i hi).2.2.2.1
  have hsd := hDB.2 (8 * p + i)
  have htd := hDB.1
  have hmul : K 0 6 * (td - sd (8 * p + i)) ≤ 99 * 100000 := Nat.mul_le_mul hfo (by omega)
  obtain ⟨_, _, _, _, _⟩ := f_di (co := co) (dr := dr) (cc := cc) (a1 := a1) (a2 := a2) (hc)
  obtain ⟨_, _, _, _, _, _, _, _, _, _, _, _, _, _, _, _, _, _, _, _, _, _, _⟩ := f_co (co := co) (dr := dr) (cc := cc) (a1 := a1) (a2 := a2) (he)
  refine Cal_of kn_X4_keptLines rfl (Nat.le_of_ble_eq_true rfl) ?_
  refine V_aload_n dX4_keptLines_0 rfl rfl ?_
  refine V_getI dX4_keptLines_1 fl_X4_18 (by first | assumption | exact ⟨by decide, rfl⟩) ?_
  refine V_aload_n dX4_keptLines_4 rfl rfl ?_
  refine V_getR dX4_keptLines_5 fl_X4_15 (by first | assumption | exact ⟨by decide, rfl⟩) (by first | assumption | rfl) ?_
  refine V_iload_n dX4_keptLines_8 rfl rfl (V_bipush (v := 8) dX4_keptLines_9 (by decide) (V_imul dX4_keptLines_11 (V_iload_n dX4_keptLines_12 rfl rfl (V_iadd dX4_keptLines_13 ?_))))
  refine V_ial dX4_keptLines_14 (by first | assumption | exact ⟨by decide, rfl⟩) (show ix _ (8 * p + i) 80 from ⟨(by rw [show (8 : Int32) = nI 8 from rfl, pk_mul, nI_add, Nat.mul_comm]), by omega⟩) ?_
  refine V_isub dX4_keptLines_15 (V_istore_4 dX4_keptLines_16 (by decide) rfl (V_iconst (v := 0) dX4_keptLines_18 (by decide) (V_bipush (v := 100) dX4_keptLines_19 (by decide) (V_aload_n dX4_keptLines_21 rfl rfl ?_))))
  refine V_getI dX4_keptLines_22 fl_X4_34 (by first | assumption | exact ⟨by decide, rfl⟩) ?_
  refine V_iload dX4_keptLines_25 rfl (V_imul dX4_keptLines_27 (V_isub dX4_keptLines_28 ?_))
  refine V_max dX4_keptLines_29 ml_X4_39 (by first | decide | omega) (by simp [Value.category]) (by decide) (by decide) ?_
  refine V_istore_5 dX4_keptLines_32 (by decide) rfl (V_aload_n dX4_keptLines_34 rfl rfl ?_)
  refine V_getR dX4_keptLines_35 fl_X4_45 (by first | assumption | exact ⟨by decide, rfl⟩) (by first | assumption | rfl) ?_
  refine V_iload_n dX4_keptLines_38 rfl rfl ?_
  refine V_ial dX4_keptLines_39 (by first | assumption | exact ⟨by decide, rfl⟩) ⟨rfl, by omega⟩ ?_
  refine V_iload dX4_keptLines_40 rfl (V_imul dX4_keptLines_42 (V_bipush (v := 100) dX4_keptLines_43 (by decide) (V_idiv dX4_keptLines_45 (by decide) ?_)))
  refine V_ireturn dX4_keptLines_46 rfl rfl rfl (by decide) (by decide) ?_
  rw [hD.1, hD.2.1 _ (by omega), pk_sub hsd, hX.1.2.2.2.2.2.1, pk_mul, show (100 : Int32) = nI 100 from rfl, (hX.2.2.2.2.1 i hi).2.2]
  have e1 : (if (0 : Int32) < nI 100 - nI (K 0 6 * (td - sd (8 * p + i))) then nI 100 - nI (K 0 6 * (td - sd (8 * p + i))) else 0) = nI (100 - K 0 6 * (td - sd (8 * p + i))) := by
    by_cases hle : K 0 6 * (td - sd (8 * p + i)) < 100
    · rw [pk_sub (by omega), ← nI_0, if_pos (nI_lt (by omega) (by omega))]
    · by_cases heq : K 0 6 * (td - sd (8 * p + i)) = 100
      · rw [heq, pk_sub (Nat.le_refl _), if_neg (by decide)]; rfl
      · have hneg := pk_sneg (a := 100) (b := K 0 6 * (td - sd (8 * p + i))) (by omega) (by omega)
        rw [if_neg (fun z => by
          have h1 := Int32.lt_iff_toInt_lt.mp z
          have h2 := Int32.lt_iff_toInt_lt.mp hneg
          omega), show 100 - K 0 6 * (td - sd (8 * p + i)) = 0 by omega, nI_0]
  rw [e1, pk_mul, pk_div (by have : K 6 i * (100 - K 0 6 * (td - sd (8 * p + i))) ≤ 999 * 100 := Nat.mul_le_mul hln (by omega)
                             omega) (by decide) (by decide)]
  exact Kk
theorem sp_lostLines (hc : c = 32 ∨ c = 35 ∨ c = 38) (he : e = 4 ∨ e = 18) (hB : KB K) (hX : CoX I e K) (hD : DX I c td sd ow) (hDB : DB td sd) {p i : Nat} (hp : p < 10) (hi : i < K 0 1) (Kk : Post (some (.int (nI (K 6 i - kpt K td sd p i)))) NC I J (RR co dr cc a1 a2)) : Cal E 2 M_X4_lostLines [.ref c, .ref e, .int (nI p), .int (nI i)] NC I J (RR co dr cc a1 a2) Post := by
  have hQ := hB.1.2.1
  obtain ⟨_, _, _, _, _⟩ := f_di (co := co) (dr := dr) (cc := cc) (a1 := a1) (a2 := a2) (hc)
  obtain ⟨_, _, _, _, _, _, _, _, _, _, _, _, _, _, _, _, _, _, _, _, _, _, _⟩ := f_co (co := co) (dr := dr) (cc := cc) (a1 := a1) (a2 := a2) (he)
  refine Cal_of kn_X4_lostLines rfl (Nat.le_of_ble_eq_true rfl) ?_
  refine V_aload_n dX4_lostLines_0 rfl rfl ?_
  refine V_getR dX4_lostLines_1 fl_X4_45 (by first | assumption | exact ⟨by decide, rfl⟩) (by first | assumption | rfl) ?_
  refine V_iload_n dX4_lostLines_4 rfl rfl ?_
  refine V_ial dX4_lostLines_5 (by first | assumption | exact ⟨by decide, rfl⟩) ⟨rfl, by omega⟩ ?_
  refine V_aload_n dX4_lostLines_6 rfl rfl (V_aload_n dX4_lostLines_7 rfl rfl (V_iload_n dX4_lostLines_8 rfl rfl (V_iload_n dX4_lostLines_9 rfl rfl ?_)))
  refine V_cV3i (M' := M_X4_keptLines) (d' := 1) dX4_lostLines_10 (Or.inl ml_X4_48) kb_X4_keptLines (by first | assumption | exact ⟨by decide, rfl⟩) (by first | decide | omega) (by simp [Value.category]) ⟨by decide, by decide⟩ ?_
  refine sp_keptLines hc he hB hX hD hDB hp hi ⟨_, rfl, ?_⟩
  refine V_isub dX4_lostLines_13 ?_
  refine V_ireturn dX4_lostLines_14 rfl rfl rfl (by decide) (by decide) ?_
  rw [(hX.2.2.2.2.1 i hi).2.2, pk_sub (kpt_le K td sd p i)]
  exact Kk
end
