/-! What is read off the best casting; a night's words and pay -/
theorem owv_inj {a b : Nat} (ha : a ≤ 10) (hb : b ≤ 10) : owv a = owv b ↔ a = b := by
  have key : ∀ a, a < 11 → ∀ b, b < 11 → (owv a = owv b ↔ a = b) := by decide
  exact key a (by omega) b (by omega)
theorem owv_neg {a : Nat} (ha : a ≤ 10) : owv a < 0 ↔ a = 0 := by
  have key : ∀ a, a < 11 → (owv a < 0 ↔ a = 0) := by decide
  exact key a (by omega)
theorem bst_mem (tb : Nat → Nat → Nat) (i sf : Nat) (pre : List Nat) : ∀ (ls : List (List Nat)) (a : Nat × List Nat), bst tb i sf pre ls a = a ∨ ∃ l ∈ ls, bst tb i sf pre ls a = (sf + TS tb i l, pre ++ l)
  | [], a => Or.inl rfl
  | l :: ls, a => by
    show bst tb i sf pre ls _ = a ∨ ∃ x ∈ l :: ls, bst tb i sf pre ls _ = _
    rcases bst_mem tb i sf pre ls (if sf + TS tb i l < a.1 then (sf + TS tb i l, pre ++ l) else a) with h | ⟨x, hx, h⟩
    · rw [h]
      by_cases hl : sf + TS tb i l < a.1
      · rw [if_pos hl]; exact Or.inr ⟨l, List.mem_cons_self, rfl⟩
      · rw [if_neg hl]; exact Or.inl rfl
    · exact Or.inr ⟨x, List.mem_cons_of_mem _ hx, h⟩
theorem CL_le {P : Nat} {ok : Nat → Nat → Bool} {ct : Nat → Bool} {cm : Nat → Nat} : ∀ (r i : Nat) (tk : Nat → Nat) (l : List Nat), l ∈ CL P ok ct cm r i tk → ∀ w ∈ l, w ≤ P
  | 0, i, tk, l, h, w, hw => by
    simp [CL] at h
    rw [h] at hw; cases hw
  | r + 1, i, tk, l, h, w, hw => by
    rw [CL] at h
    split at h
    · obtain ⟨x, hx, rfl⟩ := List.mem_map.mp h
      rcases List.mem_cons.mp hw with rfl | hw
      · exact Nat.zero_le _
      · exact CL_le r (i + 1) tk x hx w hw
    · obtain ⟨p, hp, hx⟩ := List.mem_flatMap.mp h
      split at hx
      · obtain ⟨x, hx2, rfl⟩ := List.mem_map.mp hx
        rcases List.mem_cons.mp hw with rfl | hw
        · exact List.mem_range.mp hp
        · exact CL_le r (i + 1) _ x hx2 w hw
      · cases hx
theorem CL_cutz {P : Nat} {ok : Nat → Nat → Bool} {ct : Nat → Bool} {cm : Nat → Nat} : ∀ (r i : Nat) (tk : Nat → Nat) (l : List Nat), l ∈ CL P ok ct cm r i tk → ∀ j, j < r → (l.getD j 0 = 0 ↔ ct (i + j) = true)
  | 0, i, tk, l, h, j, hj => absurd hj (by omega)
  | r + 1, i, tk, l, h, j, hj => by
    rw [CL] at h
    split at h
    · rename_i hc
      obtain ⟨x, hx, rfl⟩ := List.mem_map.mp h
      cases j with
      | zero => simp [hc]
      | succ j =>
        have := CL_cutz r (i + 1) tk x hx j (by omega)
        rw [show i + (j + 1) = i + 1 + j by omega]
        simpa using this
    · rename_i hc
      obtain ⟨p, hp, hx⟩ := List.mem_flatMap.mp h
      split at hx
      · obtain ⟨x, hx2, rfl⟩ := List.mem_map.mp hx
        cases j with
        | zero => simp [hc]
        | succ j =>
          have := CL_cutz r (i + 1) _ x hx2 j (by omega)
          rw [show i + (j + 1) = i + 1 + j by omega]
          simpa using this
      · cases hx
theorem getD_mem_le {l : List Nat} {n j : Nat} (h : ∀ w ∈ l, w ≤ n) : l.getD j 0 ≤ n := by
  rw [List.getD_eq_getElem?_getD]
  cases hj : l[j]? with
  | none => exact Nat.zero_le _
  | some w => exact h w (List.mem_of_getElem? hj)
theorem lea_ok {K : KT} {off cut td : Nat} {sd : Nat → Nat} (h : (lea K off cut td sd).1 < 1000000) : (lea K off cut td sd).2 ∈ CL (K 0 0) (okf K off) (ctf cut) (clashM K) (K 0 1) 0 (fun _ => 0) ∧ (lea K off cut td sd).1 = TS (trb K td sd) 0 (lea K off cut td sd).2 := by
  unfold lea at h ⊢
  rcases bst_mem (trb K td sd) 0 0 [] (CL (K 0 0) (okf K off) (ctf cut) (clashM K) (K 0 1) 0 (fun _ => 0)) (1000000, []) with q | ⟨l, hl, q⟩
  · rw [q] at h; exact absurd h (Nat.lt_irrefl _)
  · rw [q]
    refine ⟨by simpa using hl, by simp⟩
theorem lea_le {K : KT} {off cut td : Nat} {sd : Nat → Nat} (hB : KB K) (h : (lea K off cut td sd).1 < 1000000) (j : Nat) : (lea K off cut td sd).2.getD j 0 ≤ 10 := Nat.le_trans (getD_mem_le (CL_le _ _ _ _ (lea_ok h).1)) hB.1.1
section
variable {E : En} {I : TI} {J : TJ} {co dr : Nat} {a1 a2 : Option Nat} {Post : PT} {e : Nat} {K : KT} {off cut : Nat} {td : Nat} {sd : Nat → Nat} {ow : Nat → Int32} {bs : List Nat}
theorem sp_partsPlayedBy (he : e = 4 ∨ e = 18) (hB : KB K) (hX : CoX I e K) (hbs : ∀ j, j < K 0 1 → I 47 j = owv (bs.getD j 0) ∧ bs.getD j 0 ≤ 10) {p : Nat} (hp : p < 10) (Kk : Post (some (.int (nI (mk (fun i => decide (bs.getD i 0 = p + 1)) (K 0 1))))) NC I J (RR co dr (some e) a1 a2)) : Cal E 1 M_X2_partsPlayedBy [.ref 42, .int (nI p)] NC I J (RR co dr (some e) a1 a2) Post := by
  have hQ := hB.1.2.1
  obtain ⟨_, _, _, _, _, _, _, _, _, _, _, _, _, _, _, _, _, _, _, _, _, _, _⟩ := f_co (co := co) (dr := dr) (cc := some e) (a1 := a1) (a2 := a2) he
  refine Cal_of kn_X2_partsPlayedBy rfl (Nat.le_of_ble_eq_true rfl) ?_
  refine V_iconst (v := 0) dX2_partsPlayedBy_0 (by decide) (V_istore_2 dX2_partsPlayedBy_1 (by decide) rfl (V_iconst (v := 0) dX2_partsPlayedBy_2 (by decide) (V_istore_3 dX2_partsPlayedBy_3 (by decide) rfl ?_)))
  have key : ∀ q, q ≤ K 0 1 → V E 1 M_X2_partsPlayedBy Post 4 [some (.ref 42), some (.int (nI p)), some (.int (nI (mk (fun i => decide (bs.getD i 0 = p + 1)) q))), some (.int (nI q))] [] NC 0 0 I J (RR co dr (some e) a1 a2) := by
    refine loop_up _ ?_ ?_
    · refine V_iload_n dX2_partsPlayedBy_4 rfl rfl (V_aload_n dX2_partsPlayedBy_5 rfl rfl ?_)
      refine V_getR dX2_partsPlayedBy_6 fl_X2_27 (by first | assumption | exact ⟨by decide, rfl⟩) (by first | assumption | rfl) ?_
      refine V_getI dX2_partsPlayedBy_9 fl_X2_64 (by first | assumption | exact ⟨by decide, rfl⟩) ?_
      refine V_icmp_ge_t (tgt := 37) dX2_partsPlayedBy_12 (by decide) (by rw [hX.1.2.1]; exact nI_le (Nat.le_refl _) (by omega)) ?_
      refine V_iload_n dX2_partsPlayedBy_37 rfl rfl ?_
      refine V_ireturn dX2_partsPlayedBy_38 rfl rfl rfl (by decide) (by decide) ?_
      exact Kk
    · intro q hq ih
      obtain ⟨ho, hw⟩ := hbs q hq
      by_cases hv : bs.getD q 0 = p + 1
      · refine V_iload_n dX2_partsPlayedBy_4 rfl rfl (V_aload_n dX2_partsPlayedBy_5 rfl rfl ?_)
        refine V_getR dX2_partsPlayedBy_6 fl_X2_27 (by first | assumption | exact ⟨by decide, rfl⟩) (by first | assumption | rfl) ?_
        refine V_getI dX2_partsPlayedBy_9 fl_X2_64 (by first | assumption | exact ⟨by decide, rfl⟩) ?_
        refine V_icmp_ge_f (tgt := 37) dX2_partsPlayedBy_12 (by decide) (by rw [hX.1.2.1]; exact nI_ge hq (by omega)) ?_
        refine V_aload_n dX2_partsPlayedBy_15 rfl rfl ?_
        refine V_getR dX2_partsPlayedBy_16 fl_X2_24 (by first | assumption | exact ⟨by decide, rfl⟩) (by first | assumption | rfl) ?_
        refine V_iload_n dX2_partsPlayedBy_19 rfl rfl ?_
        refine V_ial dX2_partsPlayedBy_20 (by first | assumption | exact ⟨by decide, rfl⟩) ⟨rfl, by omega⟩ ?_
        refine V_iload_n dX2_partsPlayedBy_21 rfl rfl ?_
        refine V_icmp_ne_f (tgt := 31) dX2_partsPlayedBy_22 (by decide) (by rw [ho]; exact (owv_eq hw (by omega)).mpr hv) ?_
        refine V_iload_n dX2_partsPlayedBy_25 rfl rfl (V_iconst (v := 1) dX2_partsPlayedBy_26 (by decide) (V_iload_n dX2_partsPlayedBy_27 rfl rfl (V_ishl dX2_partsPlayedBy_28 (V_ior dX2_partsPlayedBy_29 (V_istore_2 dX2_partsPlayedBy_30 (by decide) rfl ?_)))))
        refine V_iinc_3 (w := 1) dX2_partsPlayedBy_31 (by decide) (by decide) rfl (V_goto (tgt := 4) dX2_partsPlayedBy_34 (by decide) ?_)
        rw [nI_1, mk_t (f := fun i => decide (bs.getD i 0 = p + 1)) (by omega) (by simp only [decide_eq_true_eq]; exact hv)]
        exact ih
      · refine V_iload_n dX2_partsPlayedBy_4 rfl rfl (V_aload_n dX2_partsPlayedBy_5 rfl rfl ?_)
        refine V_getR dX2_partsPlayedBy_6 fl_X2_27 (by first | assumption | exact ⟨by decide, rfl⟩) (by first | assumption | rfl) ?_
        refine V_getI dX2_partsPlayedBy_9 fl_X2_64 (by first | assumption | exact ⟨by decide, rfl⟩) ?_
        refine V_icmp_ge_f (tgt := 37) dX2_partsPlayedBy_12 (by decide) (by rw [hX.1.2.1]; exact nI_ge hq (by omega)) ?_
        refine V_aload_n dX2_partsPlayedBy_15 rfl rfl ?_
        refine V_getR dX2_partsPlayedBy_16 fl_X2_24 (by first | assumption | exact ⟨by decide, rfl⟩) (by first | assumption | rfl) ?_
        refine V_iload_n dX2_partsPlayedBy_19 rfl rfl ?_
        refine V_ial dX2_partsPlayedBy_20 (by first | assumption | exact ⟨by decide, rfl⟩) ⟨rfl, by omega⟩ ?_
        refine V_iload_n dX2_partsPlayedBy_21 rfl rfl ?_
        refine V_icmp_ne_t (tgt := 31) dX2_partsPlayedBy_22 (by decide) (by rw [ho]; exact fun z => hv ((owv_eq hw (by omega)).mp z)) ?_
        refine V_iinc_3 (w := 1) dX2_partsPlayedBy_31 (by decide) (by decide) rfl (V_goto (tgt := 4) dX2_partsPlayedBy_34 (by decide) ?_)
        rw [nI_1, mk_f (f := fun i => decide (bs.getD i 0 = p + 1)) (k := q) (by omega) (by simp only [decide_eq_false_iff_not]; exact hv)]
        exact ih
  exact key 0 (Nat.zero_le _)
theorem sp_partsNotByOwners (he : e = 4 ∨ e = 18) (hB : KB K) (hX : CoX I e K) (hbs : ∀ j, j < K 0 1 → I 47 j = owv (bs.getD j 0) ∧ bs.getD j 0 ≤ 10) (Kk : Post (some (.int (nI (fb_ct (fun i => decide (bs.getD i 0 ≠ 0 ∧ bs.getD i 0 ≠ K 7 i)) (K 0 1))))) NC I J (RR co dr (some e) a1 a2)) : Cal E 1 M_X2_partsNotByOwners [.ref 42] NC I J (RR co dr (some e) a1 a2) Post := by
  have hQ := hB.1.2.1
  obtain ⟨_, _, _, _, _, _, _, _, _, _, _, _, _, _, _, _, _, _, _, _, _, _, _⟩ := f_co (co := co) (dr := dr) (cc := some e) (a1 := a1) (a2 := a2) he
  refine Cal_of kn_X2_partsNotByOwners rfl (Nat.le_of_ble_eq_true rfl) ?_
  refine V_iconst (v := 0) dX2_partsNotByOwners_0 (by decide) (V_istore_1 dX2_partsNotByOwners_1 (by decide) rfl (V_iconst (v := 0) dX2_partsNotByOwners_2 (by decide) (V_istore_2 dX2_partsNotByOwners_3 (by decide) rfl ?_)))
  have key : ∀ q, q ≤ K 0 1 → V E 1 M_X2_partsNotByOwners Post 4 [some (.ref 42), some (.int (nI (fb_ct (fun i => decide (bs.getD i 0 ≠ 0 ∧ bs.getD i 0 ≠ K 7 i)) q))), some (.int (nI q))] [] NC 0 0 I J (RR co dr (some e) a1 a2) := by
    refine loop_up _ ?_ ?_
    · refine V_iload_n dX2_partsNotByOwners_4 rfl rfl (V_aload_n dX2_partsNotByOwners_5 rfl rfl ?_)
      refine V_getR dX2_partsNotByOwners_6 fl_X2_27 (by first | assumption | exact ⟨by decide, rfl⟩) (by first | assumption | rfl) ?_
      refine V_getI dX2_partsNotByOwners_9 fl_X2_64 (by first | assumption | exact ⟨by decide, rfl⟩) ?_
      refine V_icmp_ge_t (tgt := 51) dX2_partsNotByOwners_12 (by decide) (by rw [hX.1.2.1]; exact nI_le (Nat.le_refl _) (by omega)) ?_
      refine V_iload_n dX2_partsNotByOwners_51 rfl rfl ?_
      refine V_ireturn dX2_partsNotByOwners_52 rfl rfl rfl (by decide) (by decide) ?_
      exact Kk
    · intro q hq ih
      obtain ⟨ho, hw⟩ := hbs q hq
      have how := hX.2.2.2.2.2.1 q (by omega)
      have hw7 : K 7 q ≤ 10 := Nat.le_trans (hB.2.2.2.2.1 q) hB.1.1
      rw [fb_ct_succ] at ih
      by_cases hz : bs.getD q 0 = 0
      · have ef : decide (bs.getD q 0 ≠ 0 ∧ bs.getD q 0 ≠ K 7 q) = false := by simp only [decide_eq_false_iff_not]; exact fun z => z.1 hz
        rw [ef] at ih
        refine V_iload_n dX2_partsNotByOwners_4 rfl rfl (V_aload_n dX2_partsNotByOwners_5 rfl rfl ?_)
        refine V_getR dX2_partsNotByOwners_6 fl_X2_27 (by first | assumption | exact ⟨by decide, rfl⟩) (by first | assumption | rfl) ?_
        refine V_getI dX2_partsNotByOwners_9 fl_X2_64 (by first | assumption | exact ⟨by decide, rfl⟩) ?_
        refine V_icmp_ge_f (tgt := 51) dX2_partsNotByOwners_12 (by decide) (by rw [hX.1.2.1]; exact nI_ge hq (by omega)) ?_
        refine V_aload_n dX2_partsNotByOwners_15 rfl rfl ?_
        refine V_getR dX2_partsNotByOwners_16 fl_X2_24 (by first | assumption | exact ⟨by decide, rfl⟩) (by first | assumption | rfl) ?_
        refine V_iload_n dX2_partsNotByOwners_19 rfl rfl ?_
        refine V_ial dX2_partsNotByOwners_20 (by first | assumption | exact ⟨by decide, rfl⟩) ⟨rfl, by omega⟩ ?_
        refine V_if_lt_t (tgt := 45) dX2_partsNotByOwners_21 (by decide) (by rw [ho]; exact (owv_neg hw).mpr hz) ?_
        refine V_iinc_2 (w := 1) dX2_partsNotByOwners_45 (by decide) (by decide) rfl (V_goto (tgt := 4) dX2_partsNotByOwners_48 (by decide) ?_)
        rw [nI_1]
        exact ih
      · by_cases hk : bs.getD q 0 = K 7 q
        · have ef : decide (bs.getD q 0 ≠ 0 ∧ bs.getD q 0 ≠ K 7 q) = false := by simp only [decide_eq_false_iff_not]; exact fun z => z.2 hk
          rw [ef] at ih
          refine V_iload_n dX2_partsNotByOwners_4 rfl rfl (V_aload_n dX2_partsNotByOwners_5 rfl rfl ?_)
          refine V_getR dX2_partsNotByOwners_6 fl_X2_27 (by first | assumption | exact ⟨by decide, rfl⟩) (by first | assumption | rfl) ?_
          refine V_getI dX2_partsNotByOwners_9 fl_X2_64 (by first | assumption | exact ⟨by decide, rfl⟩) ?_
          refine V_icmp_ge_f (tgt := 51) dX2_partsNotByOwners_12 (by decide) (by rw [hX.1.2.1]; exact nI_ge hq (by omega)) ?_
          refine V_aload_n dX2_partsNotByOwners_15 rfl rfl ?_
          refine V_getR dX2_partsNotByOwners_16 fl_X2_24 (by first | assumption | exact ⟨by decide, rfl⟩) (by first | assumption | rfl) ?_
          refine V_iload_n dX2_partsNotByOwners_19 rfl rfl ?_
          refine V_ial dX2_partsNotByOwners_20 (by first | assumption | exact ⟨by decide, rfl⟩) ⟨rfl, by omega⟩ ?_
          refine V_if_lt_f (tgt := 45) dX2_partsNotByOwners_21 (by decide) (by rw [ho]; exact fun z => hz ((owv_neg hw).mp z)) ?_
          refine V_aload_n dX2_partsNotByOwners_24 rfl rfl ?_
          refine V_getR dX2_partsNotByOwners_25 fl_X2_24 (by first | assumption | exact ⟨by decide, rfl⟩) (by first | assumption | rfl) ?_
          refine V_iload_n dX2_partsNotByOwners_28 rfl rfl ?_
          refine V_ial dX2_partsNotByOwners_29 (by first | assumption | exact ⟨by decide, rfl⟩) ⟨rfl, by omega⟩ ?_
          refine V_aload_n dX2_partsNotByOwners_30 rfl rfl ?_
          refine V_getR dX2_partsNotByOwners_31 fl_X2_27 (by first | assumption | exact ⟨by decide, rfl⟩) (by first | assumption | rfl) ?_
          refine V_getR dX2_partsNotByOwners_34 fl_X2_91 (by first | assumption | exact ⟨by decide, rfl⟩) (by first | assumption | rfl) ?_
          refine V_iload_n dX2_partsNotByOwners_37 rfl rfl ?_
          refine V_ial dX2_partsNotByOwners_38 (by first | assumption | exact ⟨by decide, rfl⟩) ⟨rfl, by omega⟩ ?_
          refine V_icmp_eq_t (tgt := 45) dX2_partsNotByOwners_39 (by decide) (by rw [ho, how, hk]) ?_
          refine V_iinc_2 (w := 1) dX2_partsNotByOwners_45 (by decide) (by decide) rfl (V_goto (tgt := 4) dX2_partsNotByOwners_48 (by decide) ?_)
          rw [nI_1]
          exact ih
        · have ef : decide (bs.getD q 0 ≠ 0 ∧ bs.getD q 0 ≠ K 7 q) = true := by simp only [decide_eq_true_eq]; exact ⟨hz, hk⟩
          rw [ef] at ih
          refine V_iload_n dX2_partsNotByOwners_4 rfl rfl (V_aload_n dX2_partsNotByOwners_5 rfl rfl ?_)
          refine V_getR dX2_partsNotByOwners_6 fl_X2_27 (by first | assumption | exact ⟨by decide, rfl⟩) (by first | assumption | rfl) ?_
          refine V_getI dX2_partsNotByOwners_9 fl_X2_64 (by first | assumption | exact ⟨by decide, rfl⟩) ?_
          refine V_icmp_ge_f (tgt := 51) dX2_partsNotByOwners_12 (by decide) (by rw [hX.1.2.1]; exact nI_ge hq (by omega)) ?_
          refine V_aload_n dX2_partsNotByOwners_15 rfl rfl ?_
          refine V_getR dX2_partsNotByOwners_16 fl_X2_24 (by first | assumption | exact ⟨by decide, rfl⟩) (by first | assumption | rfl) ?_
          refine V_iload_n dX2_partsNotByOwners_19 rfl rfl ?_
          refine V_ial dX2_partsNotByOwners_20 (by first | assumption | exact ⟨by decide, rfl⟩) ⟨rfl, by omega⟩ ?_
          refine V_if_lt_f (tgt := 45) dX2_partsNotByOwners_21 (by decide) (by rw [ho]; exact fun z => hz ((owv_neg hw).mp z)) ?_
          refine V_aload_n dX2_partsNotByOwners_24 rfl rfl ?_
          refine V_getR dX2_partsNotByOwners_25 fl_X2_24 (by first | assumption | exact ⟨by decide, rfl⟩) (by first | assumption | rfl) ?_
          refine V_iload_n dX2_partsNotByOwners_28 rfl rfl ?_
          refine V_ial dX2_partsNotByOwners_29 (by first | assumption | exact ⟨by decide, rfl⟩) ⟨rfl, by omega⟩ ?_
          refine V_aload_n dX2_partsNotByOwners_30 rfl rfl ?_
          refine V_getR dX2_partsNotByOwners_31 fl_X2_27 (by first | assumption | exact ⟨by decide, rfl⟩) (by first | assumption | rfl) ?_
          refine V_getR dX2_partsNotByOwners_34 fl_X2_91 (by first | assumption | exact ⟨by decide, rfl⟩) (by first | assumption | rfl) ?_
          refine V_iload_n dX2_partsNotByOwners_37 rfl rfl ?_
          refine V_ial dX2_partsNotByOwners_38 (by first | assumption | exact ⟨by decide, rfl⟩) ⟨rfl, by omega⟩ ?_
          refine V_icmp_eq_f (tgt := 45) dX2_partsNotByOwners_39 (by decide) (by rw [ho, how]; exact fun z => hk ((owv_inj hw hw7).mp z)) ?_
          refine V_iinc_1 (w := 1) dX2_partsNotByOwners_42 (by decide) (by decide) rfl (V_iinc_2 (w := 1) dX2_partsNotByOwners_45 (by decide) (by decide) rfl (V_goto (tgt := 4) dX2_partsNotByOwners_48 (by decide) ?_))
          rw [nI_1, nI_1]
          exact ih
  exact key 0 (Nat.zero_le _)
theorem sp_forgottenLines (he : e = 4 ∨ e = 18) (hB : KB K) (hX : CoX I e K) (hD : DX I 32 td sd ow) (hDB : DB td sd) (hbs : ∀ j, j < K 0 1 → I 47 j = owv (bs.getD j 0) ∧ bs.getD j 0 ≤ 10) (Kk : Post (some (.int (nI (fb_sm (fun i => if bs.getD i 0 = 0 then 0 else K 6 i - kpt K td sd (bs.getD i 0 - 1) i) (K 0 1))))) NC I J (RR co dr (some e) a1 a2)) : Cal E 3 M_X2_forgottenLines [.ref 42, .ref 32] NC I J (RR co dr (some e) a1 a2) Post := by
  have hQ := hB.1.2.1
  obtain ⟨_, _, _, _, _, _, _, _, _, _, _, _, _, _, _, _, _, _, _, _, _, _, _⟩ := f_co (co := co) (dr := dr) (cc := some e) (a1 := a1) (a2 := a2) he
  refine Cal_of kn_X2_forgottenLines rfl (Nat.le_of_ble_eq_true rfl) ?_
  refine V_iconst (v := 0) dX2_forgottenLines_0 (by decide) (V_istore_2 dX2_forgottenLines_1 (by decide) rfl (V_iconst (v := 0) dX2_forgottenLines_2 (by decide) (V_istore_3 dX2_forgottenLines_3 (by decide) rfl ?_)))
  have key : ∀ q, q ≤ K 0 1 → V E 3 M_X2_forgottenLines Post 4 [some (.ref 42), some (.ref 32), some (.int (nI (fb_sm (fun i => if bs.getD i 0 = 0 then 0 else K 6 i - kpt K td sd (bs.getD i 0 - 1) i) q))), some (.int (nI q))] [] NC 0 0 I J (RR co dr (some e) a1 a2) := by
    refine loop_up _ ?_ ?_
    · refine V_iload_n dX2_forgottenLines_4 rfl rfl (V_aload_n dX2_forgottenLines_5 rfl rfl ?_)
      refine V_getR dX2_forgottenLines_6 fl_X2_27 (by first | assumption | exact ⟨by decide, rfl⟩) (by first | assumption | rfl) ?_
      refine V_getI dX2_forgottenLines_9 fl_X2_64 (by first | assumption | exact ⟨by decide, rfl⟩) ?_
      refine V_icmp_ge_t (tgt := 48) dX2_forgottenLines_12 (by decide) (by rw [hX.1.2.1]; exact nI_le (Nat.le_refl _) (by omega)) ?_
      refine V_iload_n dX2_forgottenLines_48 rfl rfl ?_
      refine V_ireturn dX2_forgottenLines_49 rfl rfl rfl (by decide) (by decide) ?_
      exact Kk
    · intro q hq ih
      obtain ⟨ho, hw⟩ := hbs q hq
      rw [fb_sm_succ] at ih
      by_cases hz : bs.getD q 0 = 0
      · rw [if_pos hz] at ih
        refine V_iload_n dX2_forgottenLines_4 rfl rfl (V_aload_n dX2_forgottenLines_5 rfl rfl ?_)
        refine V_getR dX2_forgottenLines_6 fl_X2_27 (by first | assumption | exact ⟨by decide, rfl⟩) (by first | assumption | rfl) ?_
        refine V_getI dX2_forgottenLines_9 fl_X2_64 (by first | assumption | exact ⟨by decide, rfl⟩) ?_
        refine V_icmp_ge_f (tgt := 48) dX2_forgottenLines_12 (by decide) (by rw [hX.1.2.1]; exact nI_ge hq (by omega)) ?_
        refine V_aload_n dX2_forgottenLines_15 rfl rfl ?_
        refine V_getR dX2_forgottenLines_16 fl_X2_24 (by first | assumption | exact ⟨by decide, rfl⟩) (by first | assumption | rfl) ?_
        refine V_iload_n dX2_forgottenLines_19 rfl rfl ?_
        refine V_ial dX2_forgottenLines_20 (by first | assumption | exact ⟨by decide, rfl⟩) ⟨rfl, by omega⟩ ?_
        refine V_if_lt_t (tgt := 42) dX2_forgottenLines_21 (by decide) (by rw [ho]; exact (owv_neg hw).mpr hz) ?_
        refine V_iinc_3 (w := 1) dX2_forgottenLines_42 (by decide) (by decide) rfl (V_goto (tgt := 4) dX2_forgottenLines_45 (by decide) ?_)
        rw [nI_1]
        exact ih
      · rw [if_neg hz] at ih
        refine V_iload_n dX2_forgottenLines_4 rfl rfl (V_aload_n dX2_forgottenLines_5 rfl rfl ?_)
        refine V_getR dX2_forgottenLines_6 fl_X2_27 (by first | assumption | exact ⟨by decide, rfl⟩) (by first | assumption | rfl) ?_
        refine V_getI dX2_forgottenLines_9 fl_X2_64 (by first | assumption | exact ⟨by decide, rfl⟩) ?_
        refine V_icmp_ge_f (tgt := 48) dX2_forgottenLines_12 (by decide) (by rw [hX.1.2.1]; exact nI_ge hq (by omega)) ?_
        refine V_aload_n dX2_forgottenLines_15 rfl rfl ?_
        refine V_getR dX2_forgottenLines_16 fl_X2_24 (by first | assumption | exact ⟨by decide, rfl⟩) (by first | assumption | rfl) ?_
        refine V_iload_n dX2_forgottenLines_19 rfl rfl ?_
        refine V_ial dX2_forgottenLines_20 (by first | assumption | exact ⟨by decide, rfl⟩) ⟨rfl, by omega⟩ ?_
        refine V_if_lt_f (tgt := 42) dX2_forgottenLines_21 (by decide) (by rw [ho]; exact fun z => hz ((owv_neg hw).mp z)) ?_
        refine V_iload_n dX2_forgottenLines_24 rfl rfl (V_aload_n dX2_forgottenLines_25 rfl rfl (V_aload_n dX2_forgottenLines_26 rfl rfl ?_))
        refine V_getR dX2_forgottenLines_27 fl_X2_27 (by first | assumption | exact ⟨by decide, rfl⟩) (by first | assumption | rfl) ?_
        refine V_aload_n dX2_forgottenLines_30 rfl rfl ?_
        refine V_getR dX2_forgottenLines_31 fl_X2_24 (by first | assumption | exact ⟨by decide, rfl⟩) (by first | assumption | rfl) ?_
        refine V_iload_n dX2_forgottenLines_34 rfl rfl ?_
        refine V_ial dX2_forgottenLines_35 (by first | assumption | exact ⟨by decide, rfl⟩) ⟨rfl, by omega⟩ ?_
        refine V_iload_n dX2_forgottenLines_36 rfl rfl ?_
        refine V_cV3i (M' := M_X4_lostLines) (d' := 2) dX2_forgottenLines_37 (Or.inl ml_X2_85) kb_X4_lostLines (by first | assumption | exact ⟨by decide, rfl⟩) (by first | decide | omega) (by simp [Value.category]) ⟨by decide, by decide⟩ ?_
        rw [show I 47 q = nI (bs.getD q 0 - 1) by rw [ho]; unfold owv; rw [if_neg hz]]
        refine sp_lostLines (Or.inl rfl) he hB hX hD hDB (by omega) hq ⟨_, rfl, ?_⟩
        refine V_iadd dX2_forgottenLines_40 (V_istore_2 dX2_forgottenLines_41 (by decide) rfl (V_iinc_3 (w := 1) dX2_forgottenLines_42 (by decide) (by decide) rfl (V_goto (tgt := 4) dX2_forgottenLines_45 (by decide) ?_)))
        rw [nI_add, nI_1]
        exact ih
  exact key 0 (Nat.zero_le _)
theorem sp_playNight {cc : Option Nat} (he : e = 4 ∨ e = 18) (hB : KB K) (hX : CoX I e K) (hD : DX I 32 td sd ow) {p a : Nat} (hp : p < 10) (ha : a < 2 ^ 31) (Kk : ∀ I', (∀ x y, x ≠ 33 → x ≠ 34 → I' x y = I x y) → DX I' 32 td (pnSd (K 0 1) td sd p a) (pnOw K ow p a) → Post none NC I' J (RR co dr cc a1 a2)) : Cal E 3 M_X4_playNight [.ref 32, .ref e, .int (nI p), .int (nI a)] NC I J (RR co dr cc a1 a2) Post := by
  have hQ := hB.1.2.1
  obtain ⟨_, _, _, _, _, _, _, _, _, _, _, _, _, _, _, _, _, _, _, _, _, _, _⟩ := f_co (co := co) (dr := dr) (cc := cc) (a1 := a1) (a2 := a2) (he)
  refine Cal_of kn_X4_playNight rfl (Nat.le_of_ble_eq_true rfl) ?_
  by_cases hz : a = 0
  · subst hz
    refine V_iload_n dX4_playNight_0 rfl rfl ?_
    refine V_if_ne_f (tgt := 5) dX4_playNight_1 (by decide) (nI_0) ?_
    refine V_return dX4_playNight_4 rfl rfl (by decide) (by decide) ?_
    refine Kk I (fun _ _ _ _ => rfl) ⟨hD.1, fun j hj => ?_, fun q hq => ?_⟩
    · rw [hD.2.1 j hj]; simp [pnSd]
    · rw [hD.2.2 q hq]; simp [pnOw]
  · refine V_iload_n dX4_playNight_0 rfl rfl ?_
    refine V_if_ne_t (tgt := 5) dX4_playNight_1 (by decide) (by rw [← nI_0]; exact fun z => hz ((nI_eq ha (by decide)).mp z)) ?_
    refine V_aload_n dX4_playNight_5 rfl rfl (V_iload_n dX4_playNight_6 rfl rfl (V_aload_n dX4_playNight_7 rfl rfl (V_iload_n dX4_playNight_8 rfl rfl ?_)))
    refine V_cV1i (M' := M_X3_ownParts) (d' := 1) dX4_playNight_9 (Or.inl ml_X4_52) kb_X3_ownParts (by first | assumption | exact ⟨by decide, rfl⟩) (by first | decide | omega) (by simp [Value.category]) ⟨by decide, by decide⟩ ?_
    refine sp_ownParts he hB hX hp ⟨_, rfl, ?_⟩
    refine V_iconst (v := (-1)) dX4_playNight_12 (by decide) (V_ixor dX4_playNight_13 (V_iand dX4_playNight_14 ?_))
    refine V_cV1i (M' := M_X3_linesTogether) (d' := 2) dX4_playNight_15 (Or.inl ml_X4_56) kb_X3_linesTogether (by first | assumption | exact ⟨by decide, rfl⟩) (by first | decide | omega) (by simp [Value.category]) ⟨by decide, by decide⟩ ?_
    rw [andn_nI]
    refine sp_linesTogether he hB hX (andn_lt ha) ⟨_, rfl, ?_⟩
    have hls := lsum_le hB (andn a (mk (fun i => decide (K 7 i = p + 1)) (K 0 1)))
    have hpl : K 0 8 ≤ 99 := hB.1.2.2.2.2.2.2.2.2
    have hmul : K 0 8 * lsum K (andn a (mk (fun i => decide (K 7 i = p + 1)) (K 0 1))) ≤ 99 * 7992 := Nat.mul_le_mul hpl hls
    refine V_istore_4 dX4_playNight_18 (by decide) rfl (V_aload_n dX4_playNight_20 rfl rfl ?_)
    refine V_getR dX4_playNight_21 fl_X4_9 (by first | assumption | exact ⟨by decide, rfl⟩) (by first | assumption | rfl) ?_
    refine V_iload_n dX4_playNight_24 rfl rfl (V_dup2 dX4_playNight_25 rfl rfl ?_)
    refine V_ial dX4_playNight_26 (by first | assumption | exact ⟨by decide, rfl⟩) ⟨rfl, by omega⟩ ?_
    refine V_aload_n dX4_playNight_27 rfl rfl ?_
    refine V_getI dX4_playNight_28 fl_X4_59 (by first | assumption | exact ⟨by decide, rfl⟩) ?_
    refine V_aload_n dX4_playNight_31 rfl rfl ?_
    refine V_getI dX4_playNight_32 fl_X4_62 (by first | assumption | exact ⟨by decide, rfl⟩) ?_
    refine V_iload dX4_playNight_35 rfl (V_imul dX4_playNight_37 (V_bipush (v := 10) dX4_playNight_38 (by decide) (V_idiv dX4_playNight_40 (by decide) (V_iadd dX4_playNight_41 (V_iadd dX4_playNight_42 ?_)))))
    refine V_ias dX4_playNight_43 (by first | assumption | exact ⟨by decide, rfl⟩) ⟨rfl, by omega⟩ ?_
    refine V_iconst (v := 0) dX4_playNight_44 (by decide) (V_istore_5 dX4_playNight_45 (by decide) rfl ?_)
    rw [hX.1.2.2.2.2.2.2.1, hX.1.2.2.2.2.2.2.2, pk_mul, show (10 : Int32) = nI 10 from rfl, pk_div (by omega) (by decide) (by decide), nI_add, hD.2.2 p hp]
    have key : ∀ q, q ≤ K 0 1 → ∀ I1, (∀ x y, x ≠ 33 → x ≠ 34 → I1 x y = I x y) → (∀ z, z < 10 → I1 33 z = pnOw K ow p a z) → (∀ j, j < 80 → I1 34 j = nI (pnSd q td sd p a j)) → V E 3 M_X4_playNight Post 47 [some (.ref 32), some (.ref e), some (.int (nI p)), some (.int (nI a)), some (.int (nI (lsum K (andn a (mk (fun i => decide (K 7 i = p + 1)) (K 0 1)))))), some (.int (nI q))] [] NC 0 0 I1 J (RR co dr cc a1 a2) := by
      refine loop_up _ ?_ ?_
      · intro I1 g1 g2 g3
        have hX1 : CoX I1 e K := hX.of (fun x y q1 q2 => g1 x y (by omega) (by omega))
        refine V_iload dX4_playNight_47 rfl (V_aload_n dX4_playNight_49 rfl rfl ?_)
        refine V_getI dX4_playNight_50 fl_X4_65 (by first | assumption | exact ⟨by decide, rfl⟩) ?_
        refine V_icmp_ge_t (tgt := 78) dX4_playNight_53 (by decide) (by rw [hX1.1.2.1]; exact nI_le (Nat.le_refl _) (by omega)) ?_
        refine V_return dX4_playNight_78 rfl rfl (by decide) (by decide) ?_
        exact Kk I1 g1 ⟨by rw [g1 32 0 (by decide) (by decide)]; exact hD.1, g3, g2⟩
      · intro q hq ih I1 g1 g2 g3
        have hX1 : CoX I1 e K := hX.of (fun x y q1 q2 => g1 x y (by omega) (by omega))
        refine V_iload dX4_playNight_47 rfl (V_aload_n dX4_playNight_49 rfl rfl ?_)
        refine V_getI dX4_playNight_50 fl_X4_65 (by first | assumption | exact ⟨by decide, rfl⟩) ?_
        refine V_icmp_ge_f (tgt := 78) dX4_playNight_53 (by decide) (by rw [hX1.1.2.1]; exact nI_ge hq (by omega)) ?_
        refine V_iload_n dX4_playNight_56 rfl rfl (V_iload dX4_playNight_57 rfl ?_)
        refine V_cS2i (M' := M_X10_has) (d' := 1) dX4_playNight_59 (Or.inr ⟨_, ml_X4_68⟩) kb_X10_has (by first | decide | omega) (by simp [Value.category]) ⟨by decide, by decide⟩ ?_
        refine sp_has ha (by omega) ⟨_, rfl, ?_⟩
        cases hv : a.testBit q
        · refine V_if_eq_t (tgt := 72) dX4_playNight_62 (by decide) (rfl) ?_
          refine V_iinc_5 (w := 1) dX4_playNight_72 (by decide) (by decide) rfl (V_goto (tgt := 47) dX4_playNight_75 (by decide) ?_)
          rw [nI_1]
          refine ih I1 g1 g2 (fun j hj => ?_)
          rw [g3 j hj]
          unfold pnSd
          by_cases hc : j / 8 = p ∧ j % 8 < q ∧ a.testBit (j % 8) = true
          · rw [if_pos hc, if_pos ⟨hc.1, by omega, hc.2.2⟩]
          · rw [if_neg hc, if_neg (fun z => hc ⟨z.1, by
              have : j % 8 ≠ q := fun h => by rw [h, hv] at z; cases z.2.2
              omega, z.2.2⟩)]
        · refine V_if_eq_f (tgt := 72) dX4_playNight_62 (by decide) (by decide) ?_
          refine V_aload_n dX4_playNight_65 rfl rfl (V_iload_n dX4_playNight_66 rfl rfl (V_iload dX4_playNight_67 rfl ?_))
          refine V_cV2v (M' := M_X4_sayToday) (d' := 1) dX4_playNight_69 (Or.inl ml_X4_72) kb_X4_sayToday (by first | assumption | exact ⟨by decide, rfl⟩) (by first | decide | omega) (by simp [Value.category]) ⟨by decide, by decide⟩ ?_
          refine sp_sayToday (Or.inl rfl) hp (by omega) ⟨rfl, ?_⟩
          refine V_iinc_5 (w := 1) dX4_playNight_72 (by decide) (by decide) rfl (V_goto (tgt := 47) dX4_playNight_75 (by decide) ?_)
          rw [nI_1]
          refine ih _ (fun x y q1 q2 => by rw [u2n (Or.inl q2)]; exact g1 x y q1 q2) (fun z hz => by rw [u2n (Or.inl (by decide))]; exact g2 z hz) (fun j hj => ?_)
          by_cases hj8 : j = 8 * p + q
          · subst hj8
            rw [u2e, g1 32 0 (by decide) (by decide), hD.1]
            unfold pnSd
            rw [if_pos ⟨by omega, by omega, by rw [show (8 * p + q) % 8 = q by omega]; exact hv⟩]
          · rw [u2n (Or.inr hj8), g3 j hj]
            unfold pnSd
            by_cases hc : j / 8 = p ∧ j % 8 < q ∧ a.testBit (j % 8) = true
            · rw [if_pos hc, if_pos ⟨hc.1, by omega, hc.2.2⟩]
            · rw [if_neg hc, if_neg (fun z => hc ⟨z.1, by
                have : j % 8 ≠ q := fun h => hj8 (by omega)
                omega, z.2.2⟩)]
    refine key 0 (Nat.zero_le _) _ (fun x y q1 q2 => by rw [u2n (Or.inl q1)]) (fun z hz9 => ?_) (fun j hj => ?_)
    · unfold pnOw
      by_cases hzp : z = p
      · subst hzp
        rw [u2e, if_pos ⟨rfl, hz⟩]; rfl
      · rw [u2n (Or.inr hzp), if_neg (fun w => hzp w.1)]; exact hD.2.2 z hz9
    · rw [u2n (Or.inl (by decide)), hD.2.1 j hj]
      unfold pnSd
      rw [if_neg (fun z => by omega)]
end
