/-! The company's loops: sets, sums, clashes -/
theorem mk_step (f : Nat → Bool) (k : Nat) (hk : k < 31) : (if f k = true then nI (mk f k) ||| ((1 : Int32) <<< (nI k &&& 31)) else nI (mk f k)) = nI (mk f (k + 1)) := by
  rw [shl1 (by omega), or_nI]
  show _ = nI (if f k = true then mk f k ||| 2 ^ k else mk f k)
  split <;> rfl
theorem mk_t {f : Nat → Bool} {k : Nat} (hk : k < 31) (h : f k = true) : nI (mk f k) ||| ((1 : Int32) <<< (nI k &&& 31)) = nI (mk f (k + 1)) := by
  rw [← mk_step f k hk, if_pos h]
theorem mk_f {f : Nat → Bool} {k : Nat} (hk : k < 31) (h : f k = false) : nI (mk f k) = nI (mk f (k + 1)) := by
  rw [← mk_step f k hk, if_neg (by rw [h]; decide)]
theorem lt31 {a n : Nat} (h : a < 2 ^ n) (hn : n ≤ 31) : a < 2 ^ 31 := Nat.lt_of_lt_of_le h (Nat.pow_le_pow_right (by decide) hn)
section
variable {E : En} {I : TI} {J : TJ} {co dr : Nat} {cc a1 a2 : Option Nat} {Post : PT} {c : Nat} {K : KT}
theorem sp_ownParts (hc : c = 4 ∨ c = 18) (hB : KB K) (hX : CoX I c K) {p : Nat} (hp : p < 10) (Kk : Post (some (.int (nI (mk (fun i => decide (K 7 i = p + 1)) (K 0 1))))) NC I J (RR co dr cc a1 a2)) : Cal E 1 M_X3_ownParts [.ref c, .int (nI p)] NC I J (RR co dr cc a1 a2) Post := by
  have hQ := hB.1.2.1
  obtain ⟨_, _, _, _, _, _, _, _, _, _, _, _, _, _, _, _, _, _, _, _, _, _, _⟩ := f_co (co := co) (dr := dr) (cc := cc) (a1 := a1) (a2 := a2) (hc)
  refine Cal_of kn_X3_ownParts rfl (Nat.le_of_ble_eq_true rfl) ?_
  refine V_iconst (v := 0) dX3_ownParts_0 (by decide) (V_istore_2 dX3_ownParts_1 (by decide) rfl (V_iconst (v := 0) dX3_ownParts_2 (by decide) (V_istore_3 dX3_ownParts_3 (by decide) rfl ?_)))
  have key : ∀ q, q ≤ K 0 1 → V E 1 M_X3_ownParts Post 4 [some (.ref c), some (.int (nI p)), some (.int (nI (mk (fun i => decide (K 7 i = p + 1)) q))), some (.int (nI q))] [] NC 0 0 I J (RR co dr cc a1 a2) := by
    refine loop_up _ ?_ ?_
    · refine V_iload_n dX3_ownParts_4 rfl rfl (V_aload_n dX3_ownParts_5 rfl rfl ?_)
      refine V_getI dX3_ownParts_6 fl_X3_53 (by first | assumption | exact ⟨by decide, rfl⟩) ?_
      refine V_icmp_ge_t (tgt := 34) dX3_ownParts_9 (by decide) (by rw [hX.1.2.1]; exact nI_le (Nat.le_refl _) (by omega)) ?_
      refine V_iload_n dX3_ownParts_34 rfl rfl ?_
      refine V_ireturn dX3_ownParts_35 rfl rfl rfl (by decide) (by decide) ?_
      exact Kk
    · intro q hq ih
      have ho : I (c + 7) q = owv (K 7 q) := hX.2.2.2.2.2.1 q (by omega)
      have hw : K 7 q ≤ 10 := Nat.le_trans (hB.2.2.2.2.1 q) hB.1.1
      by_cases hv : K 7 q = p + 1
      · refine V_iload_n dX3_ownParts_4 rfl rfl (V_aload_n dX3_ownParts_5 rfl rfl ?_)
        refine V_getI dX3_ownParts_6 fl_X3_53 (by first | assumption | exact ⟨by decide, rfl⟩) ?_
        refine V_icmp_ge_f (tgt := 34) dX3_ownParts_9 (by decide) (by rw [hX.1.2.1]; exact nI_ge hq (by omega)) ?_
        refine V_aload_n dX3_ownParts_12 rfl rfl ?_
        refine V_getR dX3_ownParts_13 fl_X3_30 (by first | assumption | exact ⟨by decide, rfl⟩) (by first | assumption | rfl) ?_
        refine V_iload_n dX3_ownParts_16 rfl rfl ?_
        refine V_ial dX3_ownParts_17 (by first | assumption | exact ⟨by decide, rfl⟩) ⟨rfl, by omega⟩ ?_
        refine V_iload_n dX3_ownParts_18 rfl rfl ?_
        refine V_icmp_ne_f (tgt := 28) dX3_ownParts_19 (by decide) (by rw [ho]; exact (owv_eq hw (by omega)).mpr hv) ?_
        refine V_iload_n dX3_ownParts_22 rfl rfl (V_iconst (v := 1) dX3_ownParts_23 (by decide) (V_iload_n dX3_ownParts_24 rfl rfl (V_ishl dX3_ownParts_25 (V_ior dX3_ownParts_26 (V_istore_2 dX3_ownParts_27 (by decide) rfl ?_)))))
        refine V_iinc_3 (w := 1) dX3_ownParts_28 (by decide) (by decide) rfl (V_goto (tgt := 4) dX3_ownParts_31 (by decide) ?_)
        rw [nI_1, mk_t (f := fun i => decide (K 7 i = p + 1)) (by omega) (by simp [hv])]
        exact ih
      · refine V_iload_n dX3_ownParts_4 rfl rfl (V_aload_n dX3_ownParts_5 rfl rfl ?_)
        refine V_getI dX3_ownParts_6 fl_X3_53 (by first | assumption | exact ⟨by decide, rfl⟩) ?_
        refine V_icmp_ge_f (tgt := 34) dX3_ownParts_9 (by decide) (by rw [hX.1.2.1]; exact nI_ge hq (by omega)) ?_
        refine V_aload_n dX3_ownParts_12 rfl rfl ?_
        refine V_getR dX3_ownParts_13 fl_X3_30 (by first | assumption | exact ⟨by decide, rfl⟩) (by first | assumption | rfl) ?_
        refine V_iload_n dX3_ownParts_16 rfl rfl ?_
        refine V_ial dX3_ownParts_17 (by first | assumption | exact ⟨by decide, rfl⟩) ⟨rfl, by omega⟩ ?_
        refine V_iload_n dX3_ownParts_18 rfl rfl ?_
        refine V_icmp_ne_t (tgt := 28) dX3_ownParts_19 (by decide) (by rw [ho]; exact fun z => hv ((owv_eq hw (by omega)).mp z)) ?_
        refine V_iinc_3 (w := 1) dX3_ownParts_28 (by decide) (by decide) rfl (V_goto (tgt := 4) dX3_ownParts_31 (by decide) ?_)
        rw [nI_1, mk_f (f := fun i => decide (K 7 i = p + 1)) (k := q) (by omega) (by simp [hv])]
        exact ih
  exact key 0 (Nat.zero_le _)
theorem sp_playable (hc : c = 4 ∨ c = 18) (hB : KB K) (hX : CoX I c K) (hS : SX I c K) {p : Nat} (hp : p < K 0 0) (Kk : Post (some (.int (nI (mayM K p)))) NC I J (RR co dr cc a1 a2)) : Cal E 3 M_X3_playable [.ref c, .int (nI p)] NC I J (RR co dr cc a1 a2) Post := by
  have hQ := hB.1.2.1
  obtain ⟨_, _, _, _, _, _, _, _, _, _, _, _, _, _, _, _, _, _, _, _, _, _, _⟩ := f_co (co := co) (dr := dr) (cc := cc) (a1 := a1) (a2 := a2) (hc)
  refine Cal_of kn_X3_playable rfl (Nat.le_of_ble_eq_true rfl) ?_
  refine V_iconst (v := 0) dX3_playable_0 (by decide) (V_istore_2 dX3_playable_1 (by decide) rfl (V_iconst (v := 0) dX3_playable_2 (by decide) (V_istore_3 dX3_playable_3 (by decide) rfl ?_)))
  have key : ∀ q, q ≤ K 0 1 → V E 3 M_X3_playable Post 4 [some (.ref c), some (.int (nI p)), some (.int (nI (mk (fun i => may K p i) q))), some (.int (nI q))] [] NC 0 0 I J (RR co dr cc a1 a2) := by
    refine loop_up _ ?_ ?_
    · refine V_iload_n dX3_playable_4 rfl rfl (V_aload_n dX3_playable_5 rfl rfl ?_)
      refine V_getI dX3_playable_6 fl_X3_53 (by first | assumption | exact ⟨by decide, rfl⟩) ?_
      refine V_icmp_ge_t (tgt := 33) dX3_playable_9 (by decide) (by rw [hX.1.2.1]; exact nI_le (Nat.le_refl _) (by omega)) ?_
      refine V_iload_n dX3_playable_33 rfl rfl ?_
      refine V_ireturn dX3_playable_34 rfl rfl rfl (by decide) (by decide) ?_
      exact Kk
    · intro q hq ih
      refine V_iload_n dX3_playable_4 rfl rfl (V_aload_n dX3_playable_5 rfl rfl ?_)
      refine V_getI dX3_playable_6 fl_X3_53 (by first | assumption | exact ⟨by decide, rfl⟩) ?_
      refine V_icmp_ge_f (tgt := 33) dX3_playable_9 (by decide) (by rw [hX.1.2.1]; exact nI_ge hq (by omega)) ?_
      refine V_aload_n dX3_playable_12 rfl rfl (V_iload_n dX3_playable_13 rfl rfl (V_iload_n dX3_playable_14 rfl rfl ?_))
      refine V_cV2i (M' := M_X3_mayPlay) (d' := 2) dX3_playable_15 (Or.inl ml_X3_145) kb_X3_mayPlay (by first | assumption | exact ⟨by decide, rfl⟩) (by first | decide | omega) (by simp [Value.category]) ⟨by decide, by decide⟩ ?_
      refine sp_mayPlay hc hB hS hp hq ⟨_, rfl, ?_⟩
      cases hv : may K p q
      · refine V_if_eq_t (tgt := 27) dX3_playable_18 (by decide) (rfl) ?_
        refine V_iinc_3 (w := 1) dX3_playable_27 (by decide) (by decide) rfl (V_goto (tgt := 4) dX3_playable_30 (by decide) ?_)
        rw [nI_1, mk_f (f := fun i => may K p i) (k := q) (by omega) hv]
        exact ih
      · refine V_if_eq_f (tgt := 27) dX3_playable_18 (by decide) (by decide) ?_
        refine V_iload_n dX3_playable_21 rfl rfl (V_iconst (v := 1) dX3_playable_22 (by decide) (V_iload_n dX3_playable_23 rfl rfl (V_ishl dX3_playable_24 (V_ior dX3_playable_25 (V_istore_2 dX3_playable_26 (by decide) rfl ?_)))))
        refine V_iinc_3 (w := 1) dX3_playable_27 (by decide) (by decide) rfl (V_goto (tgt := 4) dX3_playable_30 (by decide) ?_)
        rw [nI_1, mk_t (f := fun i => may K p i) (by omega) hv]
        exact ih
  exact key 0 (Nat.zero_le _)
theorem sp_linesTogether (hc : c = 4 ∨ c = 18) (hB : KB K) (hX : CoX I c K) {a : Nat} (ha : a < 2 ^ 31) (Kk : Post (some (.int (nI (lsum K a)))) NC I J (RR co dr cc a1 a2)) : Cal E 2 M_X3_linesTogether [.ref c, .int (nI a)] NC I J (RR co dr cc a1 a2) Post := by
  have hQ := hB.1.2.1
  obtain ⟨_, _, _, _, _, _, _, _, _, _, _, _, _, _, _, _, _, _, _, _, _, _, _⟩ := f_co (co := co) (dr := dr) (cc := cc) (a1 := a1) (a2 := a2) (hc)
  refine Cal_of kn_X3_linesTogether rfl (Nat.le_of_ble_eq_true rfl) ?_
  refine V_iconst (v := 0) dX3_linesTogether_0 (by decide) (V_istore_2 dX3_linesTogether_1 (by decide) rfl (V_iconst (v := 0) dX3_linesTogether_2 (by decide) (V_istore_3 dX3_linesTogether_3 (by decide) rfl ?_)))
  have key : ∀ q, q ≤ K 0 1 → V E 2 M_X3_linesTogether Post 4 [some (.ref c), some (.int (nI a)), some (.int (nI (fb_sm (fun i => if a.testBit i then K 6 i else 0) q))), some (.int (nI q))] [] NC 0 0 I J (RR co dr cc a1 a2) := by
    refine loop_up _ ?_ ?_
    · refine V_iload_n dX3_linesTogether_4 rfl rfl (V_aload_n dX3_linesTogether_5 rfl rfl ?_)
      refine V_getI dX3_linesTogether_6 fl_X3_53 (by first | assumption | exact ⟨by decide, rfl⟩) ?_
      refine V_icmp_ge_t (tgt := 35) dX3_linesTogether_9 (by decide) (by rw [hX.1.2.1]; exact nI_le (Nat.le_refl _) (by omega)) ?_
      refine V_iload_n dX3_linesTogether_35 rfl rfl ?_
      refine V_ireturn dX3_linesTogether_36 rfl rfl rfl (by decide) (by decide) ?_
      exact Kk
    · intro q hq ih
      refine V_iload_n dX3_linesTogether_4 rfl rfl (V_aload_n dX3_linesTogether_5 rfl rfl ?_)
      refine V_getI dX3_linesTogether_6 fl_X3_53 (by first | assumption | exact ⟨by decide, rfl⟩) ?_
      refine V_icmp_ge_f (tgt := 35) dX3_linesTogether_9 (by decide) (by rw [hX.1.2.1]; exact nI_ge hq (by omega)) ?_
      refine V_iload_n dX3_linesTogether_12 rfl rfl (V_iload_n dX3_linesTogether_13 rfl rfl ?_)
      refine V_cS2i (M' := M_X10_has) (d' := 1) dX3_linesTogether_14 (Or.inr ⟨_, ml_X3_136⟩) kb_X10_has (by first | decide | omega) (by simp [Value.category]) ⟨by decide, by decide⟩ ?_
      refine sp_has ha (by omega) ⟨_, rfl, ?_⟩
      rw [fb_sm_succ] at ih
      cases hv : a.testBit q
      · refine V_if_eq_t (tgt := 29) dX3_linesTogether_17 (by decide) (rfl) ?_
        refine V_iinc_3 (w := 1) dX3_linesTogether_29 (by decide) (by decide) rfl (V_goto (tgt := 4) dX3_linesTogether_32 (by decide) ?_)
        rw [hv] at ih
        rw [nI_1]
        exact ih
      · refine V_if_eq_f (tgt := 29) dX3_linesTogether_17 (by decide) (by decide) ?_
        refine V_iload_n dX3_linesTogether_20 rfl rfl (V_aload_n dX3_linesTogether_21 rfl rfl ?_)
        refine V_getR dX3_linesTogether_22 fl_X3_27 (by first | assumption | exact ⟨by decide, rfl⟩) (by first | assumption | rfl) ?_
        refine V_iload_n dX3_linesTogether_25 rfl rfl ?_
        refine V_ial dX3_linesTogether_26 (by first | assumption | exact ⟨by decide, rfl⟩) ⟨rfl, by omega⟩ ?_
        refine V_iadd dX3_linesTogether_27 (V_istore_2 dX3_linesTogether_28 (by decide) rfl (V_iinc_3 (w := 1) dX3_linesTogether_29 (by decide) (by decide) rfl (V_goto (tgt := 4) dX3_linesTogether_32 (by decide) ?_)))
        rw [hv] at ih
        rw [nI_1, (hX.2.2.2.2.1 q hq).2.2, nI_add]
        exact ih
  exact key 0 (Nat.zero_le _)
theorem sp_hours (hc : c = 4 ∨ c = 18) (hB : KB K) (hX : CoX I c K) {i : Nat} (hi : i < K 0 1) (Kk : Post (some (.int (nI ((K 6 i + 99) / 100)))) NC I J (RR co dr cc a1 a2)) : Cal E 1 M_X3_hours [.ref c, .int (nI i)] NC I J (RR co dr cc a1 a2) Post := by
  have hQ := hB.1.2.1
  have hl := (hB.2.2.2.1 i hi).2.2.2.1
  obtain ⟨_, _, _, _, _, _, _, _, _, _, _, _, _, _, _, _, _, _, _, _, _, _, _⟩ := f_co (co := co) (dr := dr) (cc := cc) (a1 := a1) (a2 := a2) (hc)
  refine Cal_of kn_X3_hours rfl (Nat.le_of_ble_eq_true rfl) ?_
  refine V_aload_n dX3_hours_0 rfl rfl ?_
  refine V_getR dX3_hours_1 fl_X3_27 (by first | assumption | exact ⟨by decide, rfl⟩) (by first | assumption | rfl) ?_
  refine V_iload_n dX3_hours_4 rfl rfl ?_
  refine V_ial dX3_hours_5 (by first | assumption | exact ⟨by decide, rfl⟩) ⟨rfl, by omega⟩ ?_
  refine V_bipush (v := 99) dX3_hours_6 (by decide) (V_iadd dX3_hours_8 (V_bipush (v := 100) dX3_hours_9 (by decide) (V_idiv dX3_hours_11 (by decide) ?_)))
  refine V_ireturn dX3_hours_12 rfl rfl rfl (by decide) (by decide) ?_
  rw [(hX.2.2.2.2.1 i hi).2.2, show (99 : Int32) = nI 99 from rfl, show (100 : Int32) = nI 100 from rfl, nI_add, pk_div (by omega) (by decide) (by decide)]
  exact Kk
theorem sp_scenesOf (hc : c = 4 ∨ c = 18) (hB : KB K) (hX : CoX I c K) {i : Nat} (hi : i < 32) (Kk : Post (some (.int (nI (mk (fun s => (K 9 s).testBit i) (K 0 2))))) NC I J (RR co dr cc a1 a2)) : Cal E 2 M_X5_scenesOf [.ref (c + 8), .int (nI i)] NC I J (RR co dr cc a1 a2) Post := by
  have hS := hB.1.2.2.1
  have hQ := hB.1.2.1
  obtain ⟨_, _, _, _, _⟩ := f_pl (co := co) (dr := dr) (cc := cc) (a1 := a1) (a2 := a2) (co_pl hc)
  refine Cal_of kn_X5_scenesOf rfl (Nat.le_of_ble_eq_true rfl) ?_
  refine V_iconst (v := 0) dX5_scenesOf_0 (by decide) (V_istore_2 dX5_scenesOf_1 (by decide) rfl (V_iconst (v := 0) dX5_scenesOf_2 (by decide) (V_istore_3 dX5_scenesOf_3 (by decide) rfl ?_)))
  have key : ∀ q, q ≤ K 0 2 → V E 2 M_X5_scenesOf Post 4 [some (.ref (c + 8)), some (.int (nI i)), some (.int (nI (mk (fun s => (K 9 s).testBit i) q))), some (.int (nI q))] [] NC 0 0 I J (RR co dr cc a1 a2) := by
    refine loop_up _ ?_ ?_
    · refine V_iload_n dX5_scenesOf_4 rfl rfl (V_aload_n dX5_scenesOf_5 rfl rfl ?_)
      refine V_getI dX5_scenesOf_6 fl_X5_18 (by first | assumption | exact ⟨by decide, rfl⟩) ?_
      refine V_icmp_ge_t (tgt := 37) dX5_scenesOf_9 (by decide) (by rw [hX.2.1.1]; exact nI_le (Nat.le_refl _) (by omega)) ?_
      refine V_iload_n dX5_scenesOf_37 rfl rfl ?_
      refine V_ireturn dX5_scenesOf_38 rfl rfl rfl (by decide) (by decide) ?_
      exact Kk
    · intro q hq ih
      have hs := (hX.2.2.2.2.2.2.1 q hq).1
      refine V_iload_n dX5_scenesOf_4 rfl rfl (V_aload_n dX5_scenesOf_5 rfl rfl ?_)
      refine V_getI dX5_scenesOf_6 fl_X5_18 (by first | assumption | exact ⟨by decide, rfl⟩) ?_
      refine V_icmp_ge_f (tgt := 37) dX5_scenesOf_9 (by decide) (by rw [hX.2.1.1]; exact nI_ge hq (by omega)) ?_
      refine V_aload_n dX5_scenesOf_12 rfl rfl ?_
      refine V_getR dX5_scenesOf_13 fl_X5_9 (by first | assumption | exact ⟨by decide, rfl⟩) (by first | assumption | rfl) ?_
      refine V_iload_n dX5_scenesOf_16 rfl rfl ?_
      refine V_ial dX5_scenesOf_17 (by first | assumption | exact ⟨by decide, rfl⟩) ⟨rfl, by omega⟩ ?_
      refine V_iload_n dX5_scenesOf_18 rfl rfl ?_
      refine V_cS2i (M' := M_X10_has) (d' := 1) dX5_scenesOf_19 (Or.inr ⟨_, ml_X5_25⟩) kb_X10_has (by first | decide | omega) (by simp [Value.category]) ⟨by decide, by decide⟩ ?_
      rw [show c + 8 + 1 = c + 9 by omega, hs]
      refine sp_has (lt31 (hB.2.2.2.2.2.1 q hq).1 (by omega)) hi ⟨_, rfl, ?_⟩
      cases hv : (K 9 q).testBit i
      · refine V_if_eq_t (tgt := 31) dX5_scenesOf_22 (by decide) (rfl) ?_
        refine V_iinc_3 (w := 1) dX5_scenesOf_31 (by decide) (by decide) rfl (V_goto (tgt := 4) dX5_scenesOf_34 (by decide) ?_)
        rw [nI_1, mk_f (f := fun s => (K 9 s).testBit i) (k := q) (by omega) hv]
        exact ih
      · refine V_if_eq_f (tgt := 31) dX5_scenesOf_22 (by decide) (by decide) ?_
        refine V_iload_n dX5_scenesOf_25 rfl rfl (V_iconst (v := 1) dX5_scenesOf_26 (by decide) (V_iload_n dX5_scenesOf_27 rfl rfl (V_ishl dX5_scenesOf_28 (V_ior dX5_scenesOf_29 (V_istore_2 dX5_scenesOf_30 (by decide) rfl ?_)))))
        refine V_iinc_3 (w := 1) dX5_scenesOf_31 (by decide) (by decide) rfl (V_goto (tgt := 4) dX5_scenesOf_34 (by decide) ?_)
        rw [nI_1, mk_t (f := fun s => (K 9 s).testBit i) (by omega) hv]
        exact ih
  exact key 0 (Nat.zero_le _)
end
