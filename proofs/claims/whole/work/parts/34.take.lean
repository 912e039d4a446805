/-! An item told: the pure taking of it -/
def aPl (K : KT) (a b : Nat) : KT := up2 (up2 (up2 K 1 (K 0 0) a) 2 (K 0 0) b) 0 0 (K 0 0 + 1)
def aPa (K : KT) (a b c d : Nat) : KT := up2 (up2 (up2 (up2 (up2 K 4 (K 0 1) a) 5 (K 0 1) b) 6 (K 0 1) c) 8 (K 0 1) d) 0 1 (K 0 1 + 1)
def aSc (K : KT) (a b : Nat) : KT := up2 (up2 (up2 K 9 (K 0 2) a) 10 (K 0 2) b) 0 2 (K 0 2 + 1)
def aOw (K : KT) (a b : Nat) : KT := up2 K 7 b (a + 1)
def aKn (K : KT) (a b : Nat) : KT := up2 (up2 K 3 a (K 3 a ||| 2 ^ b)) 0 3 (K 0 3 + 1)
def aCo (K : KT) (a b c : Nat) : KT := up2 (up2 K 11 (10 * a + b) c) 11 (10 * b + a) c
def aPy (K : KT) (a b : Nat) : KT := up2 (up2 K 0 7 a) 0 8 b
def takeK (K : KT) (u : Nat) (nu : Nat → Nat) (n : Nat) : Option KT :=
  if u = 97 then (if n = 2 ∧ K 0 0 < 10 ∧ nu 0 ≤ 99 ∧ nu 1 ≤ 15 then some (aPl K (nu 0) (nu 1)) else none)
  else if u = 112 then (if n = 4 ∧ K 0 1 < 8 ∧ nu 0 ≤ 99 ∧ nu 1 ≤ 15 ∧ 1 ≤ nu 2 ∧ nu 3 ≤ 1 then some (aPa K (nu 0) (nu 1) (nu 2) (nu 3)) else none)
  else if u = 99 then (if n = 2 ∧ K 0 2 < 10 ∧ 1 ≤ nu 0 ∧ nu 0 < 2 ^ K 0 1 ∧ 1 ≤ nu 1 ∧ nu 1 ≤ 99 then some (aSc K (nu 0) (nu 1)) else none)
  else if u = 111 then (if n = 2 ∧ nu 0 < K 0 0 ∧ nu 1 < K 0 1 then some (aOw K (nu 0) (nu 1)) else none)
  else if u = 107 then (if n = 2 ∧ K 0 3 < 24 ∧ nu 0 < K 0 0 ∧ nu 1 < K 0 1 then some (aKn K (nu 0) (nu 1)) else none)
  else if u = 120 then (if n = 3 ∧ nu 0 < K 0 0 ∧ nu 1 < K 0 0 ∧ nu 0 ≠ nu 1 ∧ nu 2 ≤ 100 then some (aCo K (nu 0) (nu 1) (nu 2)) else none)
  else if u = 109 then (if n = 1 ∧ nu 0 ≤ 99 then some (up2 K 0 4 (nu 0)) else none)
  else if u = 116 then (if n = 1 ∧ nu 0 ≤ 9 then some (up2 K 0 5 (nu 0)) else none)
  else if u = 102 then (if n = 1 ∧ nu 0 ≤ 99 then some (up2 K 0 6 (nu 0)) else none)
  else if u = 119 then (if n = 2 ∧ nu 1 ≤ 99 then some (aPy K (nu 0) (nu 1)) else none)
  else none
theorem u2e {α : Type} {f : Nat → Nat → α} {k s : Nat} {v : α} : up2 f k s v k s = v := up2_self f k s v
theorem u2n {α : Type} {f : Nat → Nat → α} {k s a b : Nat} {v : α} (h : a ≠ k ∨ b ≠ s) : up2 f k s v a b = f a b := up2_ne f v (by omega)
theorem lit_le {a b : Nat} (ha : a < 2 ^ 31) (hb : b < 2 ^ 31) : nI a ≤ nI b ↔ a ≤ b := nI_leI ha hb
theorem lit_lt {a b : Nat} (ha : a < 2 ^ 31) (hb : b < 2 ^ 31) : nI a < nI b ↔ a < b := nI_ltI ha hb
section
variable {E : En} {I : TI} {J : TJ} {co dr : Nat} {cc a1 a2 : Option Nat} {Post : PT} {c : Nat} {K : KT}
theorem sp_addPlayer (hc : c = 4 ∨ c = 18) (hB : KB K) (hX : CoX I c K) {a b : Nat} (ha : a < 2 ^ 31) (hb : b < 2 ^ 31) (Kn : ¬ (K 0 0 < 10 ∧ a ≤ 99 ∧ b ≤ 15) → Post (some (.int 0)) NC I J (RR co dr cc a1 a2)) (Ks : K 0 0 < 10 ∧ a ≤ 99 ∧ b ≤ 15 → ∀ I', (∀ q z, (q < c ∨ c + 11 < q) → I' q z = I q z) → CoX I' c (aPl K a b) → Post (some (.int 1)) NC I' J (RR co dr cc a1 a2)) : Cal E 1 M_X3_addPlayer [.ref c, .int (nI a), .int (nI b)] NC I J (RR co dr cc a1 a2) Post := by
  have hP := hB.1.1
  obtain ⟨_, _, _, _, _, _, _, _, _, _, _, _, _, _, _, _, _, _, _, _, _, _, _⟩ := f_co (co := co) (dr := dr) (cc := cc) (a1 := a1) (a2 := a2) (hc)
  refine Cal_of kn_X3_addPlayer rfl (Nat.le_of_ble_eq_true rfl) ?_
  have e10 : (10 : Int32) = nI 10 := rfl
  have e99 : (99 : Int32) = nI 99 := rfl
  have e15 : (15 : Int32) = nI 15 := rfl
  by_cases h1 : K 0 0 < 10
  · by_cases h2 : a ≤ 99
    · by_cases h3 : b ≤ 15
      · refine V_aload_n dX3_addPlayer_0 rfl rfl ?_
        refine V_getI dX3_addPlayer_1 fl_X3_49 (by first | assumption | exact ⟨by decide, rfl⟩) ?_
        refine V_bipush (v := 10) dX3_addPlayer_4 (by decide) ?_
        refine V_icmp_ge_f (tgt := 21) dX3_addPlayer_6 (by decide) (by rw [hX.1.1, e10, lit_le (by omega) (by omega)]; omega) ?_
        refine V_iload_n dX3_addPlayer_9 rfl rfl (V_bipush (v := 99) dX3_addPlayer_10 (by decide) ?_)
        refine V_icmp_gt_f (tgt := 21) dX3_addPlayer_12 (by decide) (by rw [e99, lit_lt (by omega) (by omega)]; omega) ?_
        refine V_iload_n dX3_addPlayer_15 rfl rfl (V_bipush (v := 15) dX3_addPlayer_16 (by decide) ?_)
        refine V_icmp_le_t (tgt := 23) dX3_addPlayer_18 (by decide) (by rw [e15, lit_le (by omega) (by omega)]; omega) ?_
        refine V_aload_n dX3_addPlayer_23 rfl rfl ?_
        refine V_getR dX3_addPlayer_24 fl_X3_9 (by first | assumption | exact ⟨by decide, rfl⟩) (by first | assumption | rfl) ?_
        refine V_aload_n dX3_addPlayer_27 rfl rfl ?_
        refine V_getI dX3_addPlayer_28 fl_X3_49 (by first | assumption | exact ⟨by decide, rfl⟩) ?_
        refine V_iload_n dX3_addPlayer_31 rfl rfl ?_
        refine V_ias dX3_addPlayer_32 (by first | assumption | exact ⟨by decide, rfl⟩) ⟨hX.1.1, by omega⟩ ?_
        refine V_aload_n dX3_addPlayer_33 rfl rfl ?_
        refine V_getR dX3_addPlayer_34 fl_X3_15 (by first | assumption | exact ⟨by decide, rfl⟩) (by first | assumption | rfl) ?_
        refine V_aload_n dX3_addPlayer_37 rfl rfl ?_
        refine V_getI dX3_addPlayer_38 fl_X3_49 (by first | assumption | exact ⟨by decide, rfl⟩) ?_
        refine V_iload_n dX3_addPlayer_41 rfl rfl ?_
        refine V_ias dX3_addPlayer_42 (by first | assumption | exact ⟨by decide, rfl⟩) ⟨(by rw [u2n (by omega)]; exact hX.1.1), by omega⟩ ?_
        refine V_aload_n dX3_addPlayer_43 rfl rfl (V_dup dX3_addPlayer_44 rfl ?_)
        refine V_getI dX3_addPlayer_45 fl_X3_49 (by first | assumption | exact ⟨by decide, rfl⟩) ?_
        refine V_iconst (v := 1) dX3_addPlayer_48 (by decide) (V_iadd dX3_addPlayer_49 ?_)
        refine V_putI dX3_addPlayer_50 fl_X3_49 (by first | assumption | exact ⟨by decide, rfl⟩) ?_
        refine V_iconst (v := 1) dX3_addPlayer_53 (by decide) ?_
        refine V_ireturn dX3_addPlayer_54 rfl rfl rfl (by decide) (by decide) ?_
        refine Ks ⟨h1, h2, h3⟩ _ (fun q z hq => ?_) ?_
        · rw [u2n (by omega), u2n (by omega), u2n (by omega)]
        · rw [u2n (by omega), u2n (by omega), hX.1.1, nI_1]
          obtain ⟨⟨x1, x2, x3, x4, x5, x6, x7, x8⟩, ⟨y1, y2⟩, d, e, f, g, k, l⟩ := hX
          refine ⟨⟨?_, ?_, ?_, ?_, ?_, ?_, ?_, ?_⟩, ⟨?_, ?_⟩, fun p hp => ?_, fun p hp => ?_, fun i hi => ?_, fun i hi => ?_, fun s hs => ?_, fun j hj => ?_⟩
          · rw [u2e]; unfold aPl; rw [u2e]
          · rw [u2n (by omega), u2n (by omega), u2n (by omega)]; exact x2
          · rw [u2n (by omega), u2n (by omega), u2n (by omega)]; exact x3
          · rw [u2n (by omega), u2n (by omega), u2n (by omega)]; exact x4
          · rw [u2n (by omega), u2n (by omega), u2n (by omega)]; exact x5
          · rw [u2n (by omega), u2n (by omega), u2n (by omega)]; exact x6
          · rw [u2n (by omega), u2n (by omega), u2n (by omega)]; exact x7
          · rw [u2n (by omega), u2n (by omega), u2n (by omega)]; exact x8
          · rw [u2n (by omega), u2n (by omega), u2n (by omega)]; exact y1
          · rw [u2n (by omega), u2n (by omega), u2n (by omega)]; exact y2
          · have hp' : p < K 0 0 + 1 := hp
            by_cases hpe : p = K 0 0
            · subst hpe
              rw [u2n (by omega), u2n (by omega), u2e, u2n (by omega), u2e]
              exact ⟨by unfold aPl; rw [u2n (by omega), u2n (by omega), u2e], by unfold aPl; rw [u2n (by omega), u2e]⟩
            · rw [u2n (by omega), u2n (by omega), u2n (by omega), u2n (by omega), u2n (by omega), u2n (by omega)]
              have := d p (by omega)
              exact ⟨by unfold aPl; rw [u2n (by omega), u2n (by omega), u2n (by omega)]; exact this.1, by unfold aPl; rw [u2n (by omega), u2n (by omega), u2n (by omega)]; exact this.2⟩
          · rw [u2n (by omega), u2n (by omega), u2n (by omega)]; exact e p hp
          · rw [u2n (by omega), u2n (by omega), u2n (by omega), u2n (by omega), u2n (by omega), u2n (by omega), u2n (by omega), u2n (by omega), u2n (by omega)]; exact f i hi
          · rw [u2n (by omega), u2n (by omega), u2n (by omega)]; exact g i hi
          · rw [u2n (by omega), u2n (by omega), u2n (by omega), u2n (by omega), u2n (by omega), u2n (by omega)]; exact k s hs
          · rw [u2n (by omega), u2n (by omega), u2n (by omega)]; exact l j hj
      · refine V_aload_n dX3_addPlayer_0 rfl rfl ?_
        refine V_getI dX3_addPlayer_1 fl_X3_49 (by first | assumption | exact ⟨by decide, rfl⟩) ?_
        refine V_bipush (v := 10) dX3_addPlayer_4 (by decide) ?_
        refine V_icmp_ge_f (tgt := 21) dX3_addPlayer_6 (by decide) (by rw [hX.1.1, e10, lit_le (by omega) (by omega)]; omega) ?_
        refine V_iload_n dX3_addPlayer_9 rfl rfl (V_bipush (v := 99) dX3_addPlayer_10 (by decide) ?_)
        refine V_icmp_gt_f (tgt := 21) dX3_addPlayer_12 (by decide) (by rw [e99, lit_lt (by omega) (by omega)]; omega) ?_
        refine V_iload_n dX3_addPlayer_15 rfl rfl (V_bipush (v := 15) dX3_addPlayer_16 (by decide) ?_)
        refine V_icmp_le_f (tgt := 23) dX3_addPlayer_18 (by decide) (by rw [e15, lit_le (by omega) (by omega)]; omega) ?_
        refine V_iconst (v := 0) dX3_addPlayer_21 (by decide) ?_
        refine V_ireturn dX3_addPlayer_22 rfl rfl rfl (by decide) (by decide) ?_
        exact Kn (by omega)
    · refine V_aload_n dX3_addPlayer_0 rfl rfl ?_
      refine V_getI dX3_addPlayer_1 fl_X3_49 (by first | assumption | exact ⟨by decide, rfl⟩) ?_
      refine V_bipush (v := 10) dX3_addPlayer_4 (by decide) ?_
      refine V_icmp_ge_f (tgt := 21) dX3_addPlayer_6 (by decide) (by rw [hX.1.1, e10, lit_le (by omega) (by omega)]; omega) ?_
      refine V_iload_n dX3_addPlayer_9 rfl rfl (V_bipush (v := 99) dX3_addPlayer_10 (by decide) ?_)
      refine V_icmp_gt_t (tgt := 21) dX3_addPlayer_12 (by decide) (by rw [e99, lit_lt (by omega) (by omega)]; omega) ?_
      refine V_iconst (v := 0) dX3_addPlayer_21 (by decide) ?_
      refine V_ireturn dX3_addPlayer_22 rfl rfl rfl (by decide) (by decide) ?_
      exact Kn (by omega)
  · refine V_aload_n dX3_addPlayer_0 rfl rfl ?_
    refine V_getI dX3_addPlayer_1 fl_X3_49 (by first | assumption | exact ⟨by decide, rfl⟩) ?_
    refine V_bipush (v := 10) dX3_addPlayer_4 (by decide) ?_
    refine V_icmp_ge_t (tgt := 21) dX3_addPlayer_6 (by decide) (by rw [hX.1.1, e10, lit_le (by omega) (by omega)]; omega) ?_
    refine V_iconst (v := 0) dX3_addPlayer_21 (by decide) ?_
    refine V_ireturn dX3_addPlayer_22 rfl rfl rfl (by decide) (by decide) ?_
    exact Kn (by omega)
end
