/-! Call of the reference: rehearsals, weighed -/
def GW (I : TI) (M : List Itm) (m : Nat) : Prop := ∀ k h, m ≤ k → k ≤ M.length → h < 100 → I 99 (100 * k + h) = nI (gs (chR (M.drop k) h)) ∧ I 100 (100 * k + h) = nI (hs (chR (M.drop k) h))
def RB (M : List Itm) : Prop := M.length ≤ 80 ∧ ∀ x ∈ M, x.2.1 ≤ 999 ∧ 1 ≤ x.2.2 ∧ x.2.2 ≤ 10
theorem lsM_RB {K : KT} (hB : KB K) (td : Nat) (sd : Nat → Nat) : RB (lsM K td sd (8 * K 0 0)) := by
  have hP := hB.1.1
  refine ⟨?_, fun x hx => ?_⟩
  · rw [lsM_tl, List.length_map]
    have := tlK_len K (8 * K 0 0)
    omega
  · rw [lsM_tl] at hx
    obtain ⟨t, ht, rfl⟩ := List.mem_map.mp hx
    obtain ⟨h3, h4⟩ := tlK_in K _ t ht
    unfold mayt at h4
    have h5 : t % 8 < K 0 1 := of_decide_eq_true ((Bool.and_eq_true _ _).mp h4).1
    have h6 := (hB.2.2.2.1 _ h5).2.2
    show K 6 (t % 8) - _ ≤ 999 ∧ 1 ≤ (K 6 (t % 8) + 99) / 100 ∧ (K 6 (t % 8) + 99) / 100 ≤ 10
    omega
theorem RB.gs {M : List Itm} (h : RB M) (k hh : Nat) : gs (chR (M.drop k) hh) ≤ 79920 := by
  have h1 := chR_gs (M.drop k) hh (fun x hx => (h.2 x (List.mem_of_mem_drop hx)).1)
  have h2 : (M.drop k).length ≤ 80 := by rw [List.length_drop]; have := h.1; omega
  have h3 : 999 * (M.drop k).length ≤ 999 * 80 := Nat.mul_le_mul_left 999 h2
  omega
theorem RB.hs {M : List Itm} (h : RB M) (k : Nat) {hh : Nat} (h9 : hh ≤ 99) : hs (chR (M.drop k) hh) ≤ hh := (chR_eq (M.drop k) (fun x hx => (h.2 x (List.mem_of_mem_drop hx)).2) hh h9).2.2
theorem chR_at {M : List Itm} {k : Nat} {x : Itm} (hx : M[k]? = some x) (h : Nat) : chR (M.drop k) h = if tkn x (chR (M.drop (k + 1)) h) (chR (M.drop (k + 1)) (h - x.2.2)) h = true then x :: chR (M.drop (k + 1)) (h - x.2.2) else chR (M.drop (k + 1)) h := by
  rw [drop_at hx]; rfl
section
variable {E : En} {I : TI} {J : TJ} {co dr : Nat} {cc a1 a2 : Option Nat} {Post : PT} {K : KT} {D : Di}
theorem lsM_at {k t : Nat} (h : (tlK K (8 * K 0 0))[k]? = some t) : (lsM K D.1 D.2.1 (8 * K 0 0))[k]? = some (itK K D.1 D.2.1 t) := by rw [lsM_tl, List.getElem?_map, h]; rfl
theorem mr_isTaken (hB : KB K) (hM : MB I K) (hD : MDX I 0 D) (hDB : DB D.1 D.2.1) (hL : PRM I (tlK K (8 * K 0 0))) {k t h : Nat} (hk : (tlK K (8 * K 0 0))[k]? = some t) (hh : h ≤ 99) (hG : GW I (lsM K D.1 D.2.1 (8 * K 0 0)) (k + 1)) (Kk : Post (some (.int (b2i (tkn (itK K D.1 D.2.1 t) (chR ((lsM K D.1 D.2.1 (8 * K 0 0)).drop (k + 1)) h) (chR ((lsM K D.1 D.2.1 (8 * K 0 0)).drop (k + 1)) (h - (itK K D.1 D.2.1 t).2.2)) h)))) NC I J (RR co dr cc a1 a2)) : Cal E 3 M_X11_isTaken [.ref 70, .int (nI k), .int (nI h)] NC I J (RR co dr cc a1 a2) Post := by
  obtain ⟨k1, k2, k3, k4⟩ := tl_at hB hk
  have hP := hB.1.1
  have hQ := hB.1.2.1
  have hRB := lsM_RB hB D.1 D.2.1
  have hMk := lsM_at (D := D) hk
  have hlen := (List.getElem?_eq_some_iff.mp hMk).1
  have hxb := hRB.2 _ (List.mem_of_getElem? hMk)
  have e98 := hL.2 k t hk
  have e8 : (8 : Int32) = nI 8 := rfl
  have er : nI t - nI t / 8 * 8 = nI (t % 8) := by rw [e8, pk_rem (by omega) (by omega) (by omega)]
  have g1 := hRB.gs (k + 1) h
  have g2 := hRB.gs (k + 1) (h - (itK K D.1 D.2.1 t).2.2)
  have s1 := hRB.hs (k + 1) hh
  have s2 := hRB.hs (k + 1) (show h - (itK K D.1 D.2.1 t).2.2 ≤ 99 by omega)
  have hG1 := hG (k + 1) h (by omega) (by omega) (by omega)
  have hG2 := hG (k + 1) (h - (itK K D.1 D.2.1 t).2.2) (by omega) (by omega) (by omega)
  refine Cal_of kn_X11_isTaken rfl (Nat.le_of_ble_eq_true rfl) ?_
  refine V_aload_n dX11_isTaken_0 rfl rfl (V_aload_n dX11_isTaken_1 rfl rfl ?_)
  refine V_getR dX11_isTaken_2 fl_X11_91 (by first | assumption | exact ⟨by decide, rfl⟩) (by first | assumption | rfl) ?_
  refine V_iload_n dX11_isTaken_5 rfl rfl ?_
  refine V_ial dX11_isTaken_6 (by first | assumption | exact ⟨by decide, rfl⟩) (show ix _ k 80 from ⟨rfl, by omega⟩) ?_
  refine V_bipush (v := 8) dX11_isTaken_7 (by decide) (V_irem dX11_isTaken_9 (by decide) ?_)
  refine V_cV1i (M' := M_X11_hoursOf) (d' := 1) dX11_isTaken_10 (Or.inl ml_X11_244) kb_X11_hoursOf (by first | assumption | exact ⟨by decide, rfl⟩) (by first | decide | omega) (by simp [Value.category]) ⟨by decide, by decide⟩ ?_
  rw [e98, er]
  refine mr_hoursOf hB hM k4 ⟨_, rfl, ?_⟩
  have eo : (K 6 (t % 8) + 99) / 100 = (itK K D.1 D.2.1 t).2.2 := rfl
  rw [eo]
  unfold tkn at Kk
  generalize hox : (itK K D.1 D.2.1 t).2.2 = o at *
  generalize hA : chR ((lsM K D.1 D.2.1 (8 * K 0 0)).drop (k + 1)) h = A at *
  generalize hBb : chR ((lsM K D.1 D.2.1 (8 * K 0 0)).drop (k + 1)) (h - o) = B at *
  by_cases ho : o ≤ h
  · refine V_istore_3 dX11_isTaken_13 (by decide) rfl (V_iload_n dX11_isTaken_14 rfl rfl (V_iload_n dX11_isTaken_15 rfl rfl ?_))
    refine V_icmp_le_t (tgt := 21) dX11_isTaken_16 (by decide) (nI_le ho (by omega)) ?_
    refine V_aload_n dX11_isTaken_21 rfl rfl (V_iload_n dX11_isTaken_22 rfl rfl ?_)
    refine V_cV1i (M' := M_X11_gainOf) (d' := 2) dX11_isTaken_23 (Or.inl ml_X11_250) kb_X11_gainOf (by first | assumption | exact ⟨by decide, rfl⟩) (by first | decide | omega) (by simp [Value.category]) ⟨by decide, by decide⟩ ?_
    refine mr_gainOf hB hM hD hDB hL hk ⟨_, rfl, ?_⟩
    generalize hgx : (itK K D.1 D.2.1 t).2.1 = g at *
    have i1 : ix ((100 : Int32) * (nI k + 1) + nI h) (100 * (k + 1) + h) 8100 := ⟨by rw [nI_1, show (100 : Int32) = nI 100 from rfl, pk_mul, nI_add], by omega⟩
    have i2 : ix ((100 : Int32) * (nI k + 1) + nI h - nI o) (100 * (k + 1) + (h - o)) 8100 := ⟨by rw [nI_1, show (100 : Int32) = nI 100 from rfl, pk_mul, nI_add, pk_sub (by omega), show 100 * (k + 1) + h - o = 100 * (k + 1) + (h - o) by omega], by omega⟩
    have et : nI g + I 99 (100 * (k + 1) + (h - o)) = nI (g + gs B) := by rw [hG2.1, nI_add]
    by_cases c1 : gs A < g + gs B
    · refine V_aload_n dX11_isTaken_26 rfl rfl ?_
      refine V_getR dX11_isTaken_27 fl_X11_94 (by first | assumption | exact ⟨by decide, rfl⟩) (by first | assumption | rfl) ?_
      refine V_bipush (v := 100) dX11_isTaken_30 (by decide) (V_iload_n dX11_isTaken_32 rfl rfl (V_iconst (v := 1) dX11_isTaken_33 (by decide) (V_iadd dX11_isTaken_34 (V_imul dX11_isTaken_35 (V_iload_n dX11_isTaken_36 rfl rfl ?_)))))
      refine V_iadd dX11_isTaken_37 (V_iload_n dX11_isTaken_38 rfl rfl (V_isub dX11_isTaken_39 ?_))
      refine V_ial dX11_isTaken_40 (by first | assumption | exact ⟨by decide, rfl⟩) i2 ?_
      refine V_iadd dX11_isTaken_41 (V_istore_4 dX11_isTaken_42 (by decide) rfl (V_aload_n dX11_isTaken_44 rfl rfl ?_))
      refine V_getR dX11_isTaken_45 fl_X11_94 (by first | assumption | exact ⟨by decide, rfl⟩) (by first | assumption | rfl) ?_
      refine V_bipush (v := 100) dX11_isTaken_48 (by decide) (V_iload_n dX11_isTaken_50 rfl rfl (V_iconst (v := 1) dX11_isTaken_51 (by decide) (V_iadd dX11_isTaken_52 (V_imul dX11_isTaken_53 (V_iload_n dX11_isTaken_54 rfl rfl ?_)))))
      refine V_iadd dX11_isTaken_55 ?_
      refine V_ial dX11_isTaken_56 (by first | assumption | exact ⟨by decide, rfl⟩) i1 ?_
      refine V_istore_5 dX11_isTaken_57 (by decide) rfl (V_iload dX11_isTaken_59 rfl (V_iload dX11_isTaken_61 rfl ?_))
      refine V_icmp_gt_t (tgt := 106) dX11_isTaken_63 (by decide) (by rw [et, hG1.1]; exact nI_lt c1 (by omega)) ?_
      refine V_iconst (v := 1) dX11_isTaken_106 (by decide) (V_goto (tgt := 111) dX11_isTaken_107 (by decide) ?_)
      refine V_ireturn dX11_isTaken_111 rfl rfl rfl (by decide) (by decide) ?_
      rw [decide_eq_true ⟨ho, Or.inl c1⟩] at Kk
      exact Kk
    · have n1 : ¬ I 99 (100 * (k + 1) + h) < nI g + I 99 (100 * (k + 1) + (h - o)) := by rw [et, hG1.1, lit_lt (by omega) (by omega)]; omega
      by_cases c2 : g + gs B = gs A
      · have n2 : nI g + I 99 (100 * (k + 1) + (h - o)) = I 99 (100 * (k + 1) + h) := by rw [et, hG1.1, c2]
        by_cases c3 : o + hs B ≤ hs A
        · refine V_aload_n dX11_isTaken_26 rfl rfl ?_
          refine V_getR dX11_isTaken_27 fl_X11_94 (by first | assumption | exact ⟨by decide, rfl⟩) (by first | assumption | rfl) ?_
          refine V_bipush (v := 100) dX11_isTaken_30 (by decide) (V_iload_n dX11_isTaken_32 rfl rfl (V_iconst (v := 1) dX11_isTaken_33 (by decide) (V_iadd dX11_isTaken_34 (V_imul dX11_isTaken_35 (V_iload_n dX11_isTaken_36 rfl rfl ?_)))))
          refine V_iadd dX11_isTaken_37 (V_iload_n dX11_isTaken_38 rfl rfl (V_isub dX11_isTaken_39 ?_))
          refine V_ial dX11_isTaken_40 (by first | assumption | exact ⟨by decide, rfl⟩) i2 ?_
          refine V_iadd dX11_isTaken_41 (V_istore_4 dX11_isTaken_42 (by decide) rfl (V_aload_n dX11_isTaken_44 rfl rfl ?_))
          refine V_getR dX11_isTaken_45 fl_X11_94 (by first | assumption | exact ⟨by decide, rfl⟩) (by first | assumption | rfl) ?_
          refine V_bipush (v := 100) dX11_isTaken_48 (by decide) (V_iload_n dX11_isTaken_50 rfl rfl (V_iconst (v := 1) dX11_isTaken_51 (by decide) (V_iadd dX11_isTaken_52 (V_imul dX11_isTaken_53 (V_iload_n dX11_isTaken_54 rfl rfl ?_)))))
          refine V_iadd dX11_isTaken_55 ?_
          refine V_ial dX11_isTaken_56 (by first | assumption | exact ⟨by decide, rfl⟩) i1 ?_
          refine V_istore_5 dX11_isTaken_57 (by decide) rfl (V_iload dX11_isTaken_59 rfl (V_iload dX11_isTaken_61 rfl ?_))
          refine V_icmp_gt_f (tgt := 106) dX11_isTaken_63 (by decide) (n1) ?_
          refine V_iload dX11_isTaken_66 rfl (V_iload dX11_isTaken_68 rfl ?_)
          refine V_icmp_ne_f (tgt := 110) dX11_isTaken_70 (by decide) (n2) ?_
          refine V_iload_n dX11_isTaken_73 rfl rfl (V_aload_n dX11_isTaken_74 rfl rfl ?_)
          refine V_getR dX11_isTaken_75 fl_X11_97 (by first | assumption | exact ⟨by decide, rfl⟩) (by first | assumption | rfl) ?_
          refine V_bipush (v := 100) dX11_isTaken_78 (by decide) (V_iload_n dX11_isTaken_80 rfl rfl (V_iconst (v := 1) dX11_isTaken_81 (by decide) (V_iadd dX11_isTaken_82 (V_imul dX11_isTaken_83 (V_iload_n dX11_isTaken_84 rfl rfl ?_)))))
          refine V_iadd dX11_isTaken_85 (V_iload_n dX11_isTaken_86 rfl rfl (V_isub dX11_isTaken_87 ?_))
          refine V_ial dX11_isTaken_88 (by first | assumption | exact ⟨by decide, rfl⟩) i2 ?_
          refine V_iadd dX11_isTaken_89 (V_aload_n dX11_isTaken_90 rfl rfl ?_)
          refine V_getR dX11_isTaken_91 fl_X11_97 (by first | assumption | exact ⟨by decide, rfl⟩) (by first | assumption | rfl) ?_
          refine V_bipush (v := 100) dX11_isTaken_94 (by decide) (V_iload_n dX11_isTaken_96 rfl rfl (V_iconst (v := 1) dX11_isTaken_97 (by decide) (V_iadd dX11_isTaken_98 (V_imul dX11_isTaken_99 (V_iload_n dX11_isTaken_100 rfl rfl ?_)))))
          refine V_iadd dX11_isTaken_101 ?_
          refine V_ial dX11_isTaken_102 (by first | assumption | exact ⟨by decide, rfl⟩) i1 ?_
          refine V_icmp_gt_f (tgt := 110) dX11_isTaken_103 (by decide) (by rw [hG2.2, hG1.2, nI_add, lit_lt (by omega) (by omega)]; omega) ?_
          refine V_iconst (v := 1) dX11_isTaken_106 (by decide) (V_goto (tgt := 111) dX11_isTaken_107 (by decide) ?_)
          refine V_ireturn dX11_isTaken_111 rfl rfl rfl (by decide) (by decide) ?_
          rw [decide_eq_true ⟨ho, Or.inr ⟨c2, c3⟩⟩] at Kk
          exact Kk
        · refine V_aload_n dX11_isTaken_26 rfl rfl ?_
          refine V_getR dX11_isTaken_27 fl_X11_94 (by first | assumption | exact ⟨by decide, rfl⟩) (by first | assumption | rfl) ?_
          refine V_bipush (v := 100) dX11_isTaken_30 (by decide) (V_iload_n dX11_isTaken_32 rfl rfl (V_iconst (v := 1) dX11_isTaken_33 (by decide) (V_iadd dX11_isTaken_34 (V_imul dX11_isTaken_35 (V_iload_n dX11_isTaken_36 rfl rfl ?_)))))
          refine V_iadd dX11_isTaken_37 (V_iload_n dX11_isTaken_38 rfl rfl (V_isub dX11_isTaken_39 ?_))
          refine V_ial dX11_isTaken_40 (by first | assumption | exact ⟨by decide, rfl⟩) i2 ?_
          refine V_iadd dX11_isTaken_41 (V_istore_4 dX11_isTaken_42 (by decide) rfl (V_aload_n dX11_isTaken_44 rfl rfl ?_))
          refine V_getR dX11_isTaken_45 fl_X11_94 (by first | assumption | exact ⟨by decide, rfl⟩) (by first | assumption | rfl) ?_
          refine V_bipush (v := 100) dX11_isTaken_48 (by decide) (V_iload_n dX11_isTaken_50 rfl rfl (V_iconst (v := 1) dX11_isTaken_51 (by decide) (V_iadd dX11_isTaken_52 (V_imul dX11_isTaken_53 (V_iload_n dX11_isTaken_54 rfl rfl ?_)))))
          refine V_iadd dX11_isTaken_55 ?_
          refine V_ial dX11_isTaken_56 (by first | assumption | exact ⟨by decide, rfl⟩) i1 ?_
          refine V_istore_5 dX11_isTaken_57 (by decide) rfl (V_iload dX11_isTaken_59 rfl (V_iload dX11_isTaken_61 rfl ?_))
          refine V_icmp_gt_f (tgt := 106) dX11_isTaken_63 (by decide) (n1) ?_
          refine V_iload dX11_isTaken_66 rfl (V_iload dX11_isTaken_68 rfl ?_)
          refine V_icmp_ne_f (tgt := 110) dX11_isTaken_70 (by decide) (n2) ?_
          refine V_iload_n dX11_isTaken_73 rfl rfl (V_aload_n dX11_isTaken_74 rfl rfl ?_)
          refine V_getR dX11_isTaken_75 fl_X11_97 (by first | assumption | exact ⟨by decide, rfl⟩) (by first | assumption | rfl) ?_
          refine V_bipush (v := 100) dX11_isTaken_78 (by decide) (V_iload_n dX11_isTaken_80 rfl rfl (V_iconst (v := 1) dX11_isTaken_81 (by decide) (V_iadd dX11_isTaken_82 (V_imul dX11_isTaken_83 (V_iload_n dX11_isTaken_84 rfl rfl ?_)))))
          refine V_iadd dX11_isTaken_85 (V_iload_n dX11_isTaken_86 rfl rfl (V_isub dX11_isTaken_87 ?_))
          refine V_ial dX11_isTaken_88 (by first | assumption | exact ⟨by decide, rfl⟩) i2 ?_
          refine V_iadd dX11_isTaken_89 (V_aload_n dX11_isTaken_90 rfl rfl ?_)
          refine V_getR dX11_isTaken_91 fl_X11_97 (by first | assumption | exact ⟨by decide, rfl⟩) (by first | assumption | rfl) ?_
          refine V_bipush (v := 100) dX11_isTaken_94 (by decide) (V_iload_n dX11_isTaken_96 rfl rfl (V_iconst (v := 1) dX11_isTaken_97 (by decide) (V_iadd dX11_isTaken_98 (V_imul dX11_isTaken_99 (V_iload_n dX11_isTaken_100 rfl rfl ?_)))))
          refine V_iadd dX11_isTaken_101 ?_
          refine V_ial dX11_isTaken_102 (by first | assumption | exact ⟨by decide, rfl⟩) i1 ?_
          refine V_icmp_gt_t (tgt := 110) dX11_isTaken_103 (by decide) (by rw [hG2.2, hG1.2, nI_add, lit_lt (by omega) (by omega)]; omega) ?_
          refine V_iconst (v := 0) dX11_isTaken_110 (by decide) ?_
          refine V_ireturn dX11_isTaken_111 rfl rfl rfl (by decide) (by decide) ?_
          rw [decide_eq_false (fun z => by omega)] at Kk
          exact Kk
      · refine V_aload_n dX11_isTaken_26 rfl rfl ?_
        refine V_getR dX11_isTaken_27 fl_X11_94 (by first | assumption | exact ⟨by decide, rfl⟩) (by first | assumption | rfl) ?_
        refine V_bipush (v := 100) dX11_isTaken_30 (by decide) (V_iload_n dX11_isTaken_32 rfl rfl (V_iconst (v := 1) dX11_isTaken_33 (by decide) (V_iadd dX11_isTaken_34 (V_imul dX11_isTaken_35 (V_iload_n dX11_isTaken_36 rfl rfl ?_)))))
        refine V_iadd dX11_isTaken_37 (V_iload_n dX11_isTaken_38 rfl rfl (V_isub dX11_isTaken_39 ?_))
        refine V_ial dX11_isTaken_40 (by first | assumption | exact ⟨by decide, rfl⟩) i2 ?_
        refine V_iadd dX11_isTaken_41 (V_istore_4 dX11_isTaken_42 (by decide) rfl (V_aload_n dX11_isTaken_44 rfl rfl ?_))
        refine V_getR dX11_isTaken_45 fl_X11_94 (by first | assumption | exact ⟨by decide, rfl⟩) (by first | assumption | rfl) ?_
        refine V_bipush (v := 100) dX11_isTaken_48 (by decide) (V_iload_n dX11_isTaken_50 rfl rfl (V_iconst (v := 1) dX11_isTaken_51 (by decide) (V_iadd dX11_isTaken_52 (V_imul dX11_isTaken_53 (V_iload_n dX11_isTaken_54 rfl rfl ?_)))))
        refine V_iadd dX11_isTaken_55 ?_
        refine V_ial dX11_isTaken_56 (by first | assumption | exact ⟨by decide, rfl⟩) i1 ?_
        refine V_istore_5 dX11_isTaken_57 (by decide) rfl (V_iload dX11_isTaken_59 rfl (V_iload dX11_isTaken_61 rfl ?_))
        refine V_icmp_gt_f (tgt := 106) dX11_isTaken_63 (by decide) (n1) ?_
        refine V_iload dX11_isTaken_66 rfl (V_iload dX11_isTaken_68 rfl ?_)
        refine V_icmp_ne_t (tgt := 110) dX11_isTaken_70 (by decide) (by rw [et, hG1.1]; exact fun z => c2 ((nI_eq (by omega) (by omega)).mp z)) ?_
        refine V_iconst (v := 0) dX11_isTaken_110 (by decide) ?_
        refine V_ireturn dX11_isTaken_111 rfl rfl rfl (by decide) (by decide) ?_
        rw [decide_eq_false (fun z => by omega)] at Kk
        exact Kk
  · refine V_istore_3 dX11_isTaken_13 (by decide) rfl (V_iload_n dX11_isTaken_14 rfl rfl (V_iload_n dX11_isTaken_15 rfl rfl ?_))
    refine V_icmp_le_f (tgt := 21) dX11_isTaken_16 (by decide) (nI_ge (by omega) (by omega)) ?_
    refine V_iconst (v := 0) dX11_isTaken_19 (by decide) ?_
    refine V_ireturn dX11_isTaken_20 rfl rfl rfl (by decide) (by decide) ?_
    rw [decide_eq_false (fun z => ho z.1)] at Kk
    exact Kk
def FrH (I I' : TI) : Prop := ∀ x y, x ≠ 98 → x ≠ 99 → x ≠ 100 → (x ≠ 70 ∨ y ≠ 32) → I' x y = I x y
theorem FrH.MB {I1 : TI} (g : FrH I I1) (hB : KB K) (hM : MB I K) : MB I1 K := hM.all hB (fun x y a b => g x y (by omega) (by omega) (by omega) (by omega))
theorem FrH.MDX {I1 : TI} (g : FrH I I1) {b : Nat} (hM : MDX I b D) : MDX I1 b D := hM.of (fun x y a b => g x y (by omega) (by omega) (by omega) (by omega))
theorem row_step (hB : KB K) (hM : MB I K) (hD : MDX I 0 D) (hDB : DB D.1 D.2.1) (hRB : RB (lsM K D.1 D.2.1 (8 * K 0 0))) (hll : (lsM K D.1 D.2.1 (8 * K 0 0)).length = (tlK K (8 * K 0 0)).length) (k : Nat) (hk : k ≤ (tlK K (8 * K 0 0)).length) (I2 : TI) (f2 : FrH I I2) (hL2 : PRM I2 (tlK K (8 * K 0 0))) (hG2 : GW I2 (lsM K D.1 D.2.1 (8 * K 0 0)) (k + 1)) (nxt : ∀ I3, FrH I I3 → PRM I3 (tlK K (8 * K 0 0)) → GW I3 (lsM K D.1 D.2.1 (8 * K 0 0)) k → V E 4 M_X11_layRehearsals Post 9 [some (.ref 70), some (.int (nI k + -1)), none, none, none, none] [] NC 0 0 I3 J (RR co dr cc a1 a2)) : V E 4 M_X11_layRehearsals Post 9 [some (.ref 70), some (.int (nI k)), none, none, none, none] [] NC 0 0 I2 J (RR co dr cc a1 a2) := by
  have hlen80 := hRB.1
  refine V_iload_n dX11_layRehearsals_9 rfl rfl ?_
  refine V_if_lt_f (tgt := 165) dX11_layRehearsals_10 (by decide) (nI_nn (by omega)) ?_
  refine V_iconst (v := 0) dX11_layRehearsals_13 (by decide) (V_istore_2 dX11_layRehearsals_14 (by decide) rfl ?_)
  have key : ∀ h, h ≤ 100 → ∀ I3, FrH I I3 → PRM I3 (tlK K (8 * K 0 0)) → GW I3 (lsM K D.1 D.2.1 (8 * K 0 0)) (k + 1) → (∀ h', h' < h → I3 99 (100 * k + h') = nI (gs (chR ((lsM K D.1 D.2.1 (8 * K 0 0)).drop k) h')) ∧ I3 100 (100 * k + h') = nI (hs (chR ((lsM K D.1 D.2.1 (8 * K 0 0)).drop k) h'))) → V E 4 M_X11_layRehearsals Post 15 [some (.ref 70), some (.int (nI k)), some (.int (nI h)), none, none, none] [] NC 0 0 I3 J (RR co dr cc a1 a2) := by
    refine loop_up 100 ?_ ?_
    · intro I3 f3 hL3 hG3 hrow
      refine V_iload_n dX11_layRehearsals_15 rfl rfl (V_bipush (v := 100) dX11_layRehearsals_16 (by decide) ?_)
      refine V_icmp_ge_t (tgt := 159) dX11_layRehearsals_18 (by decide) (nI_le (a := 100) (b := 100) (by decide) (by decide)) ?_
      refine V_iinc_1 (w := (-1)) dX11_layRehearsals_159 (by decide) (by decide) rfl (V_goto (tgt := 9) dX11_layRehearsals_162 (by decide) ?_)
      refine V_forget (nxt I3 f3 hL3 (fun k' h' a b c => ?_)) (by simp [lessb])
      by_cases hkk : k' = k
      · subst hkk; exact hrow h' c
      · exact hG3 k' h' (by omega) b c
    · intro h hh ih I3 f3 hL3 hG3 hrow
      have hM3 := f3.MB hB hM
      have hD3 := f3.MDX hD
      have ea : (100 : Int32) * nI k + nI h = nI (100 * k + h) := by rw [show (100 : Int32) = nI 100 from rfl, pk_mul, nI_add]
      have eb : nI (100 * k + h) + 100 = nI (100 * (k + 1) + h) := by rw [show (100 : Int32) = nI 100 from rfl, nI_add, show 100 * k + h + 100 = 100 * (k + 1) + h by omega]
      refine V_iload_n dX11_layRehearsals_15 rfl rfl (V_bipush (v := 100) dX11_layRehearsals_16 (by decide) ?_)
      refine V_icmp_ge_f (tgt := 159) dX11_layRehearsals_18 (by decide) (nI_ge (b := 100) hh (by decide)) ?_
      refine V_bipush (v := 100) dX11_layRehearsals_21 (by decide) (V_iload_n dX11_layRehearsals_23 rfl rfl (V_imul dX11_layRehearsals_24 (V_iload_n dX11_layRehearsals_25 rfl rfl (V_iadd dX11_layRehearsals_26 (V_istore_3 dX11_layRehearsals_27 (by decide) rfl ?_)))))
      refine V_iload_n dX11_layRehearsals_28 rfl rfl (V_bipush (v := 100) dX11_layRehearsals_29 (by decide) (V_iadd dX11_layRehearsals_31 (V_istore_4 dX11_layRehearsals_32 (by decide) rfl ?_)))
      rw [ea, eb]
      have fin : ∀ (v w : Int32) (o5 : Option Value), v = nI (gs (chR ((lsM K D.1 D.2.1 (8 * K 0 0)).drop k) h)) → w = nI (hs (chR ((lsM K D.1 D.2.1 (8 * K 0 0)).drop k) h)) → V E 4 M_X11_layRehearsals Post 153 [some (.ref 70), some (.int (nI k)), some (.int (nI h)), some (.int (nI (100 * k + h))), some (.int (nI (100 * (k + 1) + h))), o5] [] NC 0 0 (up2 (up2 I3 99 (100 * k + h) v) 100 (100 * k + h) w) J (RR co dr cc a1 a2) := by
        intro v w o5 hv hw
        refine V_iinc_2 (w := 1) dX11_layRehearsals_153 (by decide) (by decide) rfl (V_goto (tgt := 15) dX11_layRehearsals_156 (by decide) ?_)
        rw [nI_1]
        refine V_forget (ih _ (fun x y a b c e => by rw [u2n (by omega), u2n (by omega)]; exact f3 x y a b c e) ⟨by rw [u2n (by omega), u2n (by omega)]; exact hL3.1, fun k' t' z => by rw [u2n (by omega), u2n (by omega)]; exact hL3.2 k' t' z⟩ (fun k' h' a b c => ?_) (fun h' z => ?_)) (by simp [lessb])
        · obtain ⟨z1, z2⟩ := hG3 k' h' a b c
          exact ⟨by rw [u2n (by omega), u2n (by omega)]; exact z1, by rw [u2n (by omega), u2n (by omega)]; exact z2⟩
        · by_cases hhh : h' = h
          · subst hhh
            exact ⟨by rw [u2n (by omega), u2e, hv], by rw [u2e, hw]⟩
          · obtain ⟨z1, z2⟩ := hrow h' (by omega)
            exact ⟨by rw [u2n (by omega), u2n (by omega)]; exact z1, by rw [u2n (by omega), u2n (by omega)]; exact z2⟩
      have ixa9 : ix (nI (100 * k + h)) (100 * k + h) 8100 := ⟨rfl, by omega⟩
      have ixb9 : k < (tlK K (8 * K 0 0)).length → ix (nI (100 * (k + 1) + h)) (100 * (k + 1) + h) 8100 := fun _ => ⟨rfl, by omega⟩
      by_cases hend : k = (tlK K (8 * K 0 0)).length
      · refine V_iload_n dX11_layRehearsals_34 rfl rfl (V_aload_n dX11_layRehearsals_35 rfl rfl ?_)
        refine V_getI dX11_layRehearsals_36 fl_X11_247 (by first | assumption | exact ⟨by decide, rfl⟩) ?_
        refine V_icmp_ne_f (tgt := 59) dX11_layRehearsals_39 (by decide) (by rw [hL3.1, hend]) ?_
        refine V_aload_n dX11_layRehearsals_42 rfl rfl ?_
        refine V_getR dX11_layRehearsals_43 fl_X11_94 (by first | assumption | exact ⟨by decide, rfl⟩) (by first | assumption | rfl) ?_
        refine V_iload_n dX11_layRehearsals_46 rfl rfl (V_iconst (v := 0) dX11_layRehearsals_47 (by decide) ?_)
        refine V_ias dX11_layRehearsals_48 (by first | assumption | exact ⟨by decide, rfl⟩) ixa9 ?_
        refine V_aload_n dX11_layRehearsals_49 rfl rfl ?_
        refine V_getR dX11_layRehearsals_50 fl_X11_97 (by first | assumption | exact ⟨by decide, rfl⟩) (by first | assumption | rfl) ?_
        refine V_iload_n dX11_layRehearsals_53 rfl rfl (V_iconst (v := 0) dX11_layRehearsals_54 (by decide) ?_)
        refine V_ias dX11_layRehearsals_55 (by first | assumption | exact ⟨by decide, rfl⟩) ixa9 ?_
        refine V_goto (tgt := 153) dX11_layRehearsals_56 (by decide) ?_
        have hdr : (lsM K D.1 D.2.1 (8 * K 0 0)).drop k = [] := List.drop_eq_nil_of_le (by omega)
        exact fin 0 0 none (by rw [hdr]; rfl) (by rw [hdr]; rfl)
      · have hlt : k < (tlK K (8 * K 0 0)).length := by omega
        obtain ⟨t, ht⟩ : ∃ t, (tlK K (8 * K 0 0))[k]? = some t := ⟨_, List.getElem?_eq_getElem hlt⟩
        obtain ⟨t1, t2, t3, t4⟩ := tl_at hB ht
        have hMk := lsM_at (D := D) ht
        have hcr := chR_at hMk h
        have hxb := hRB.2 _ (List.mem_of_getElem? hMk)
        have e98 := hL3.2 k t ht
        have e8 : (8 : Int32) = nI 8 := rfl
        have er : nI t - nI t / 8 * 8 = nI (t % 8) := by rw [e8, pk_rem (by omega) (by omega) (by omega)]
        refine V_iload_n dX11_layRehearsals_34 rfl rfl (V_aload_n dX11_layRehearsals_35 rfl rfl ?_)
        refine V_getI dX11_layRehearsals_36 fl_X11_247 (by first | assumption | exact ⟨by decide, rfl⟩) ?_
        refine V_icmp_ne_t (tgt := 59) dX11_layRehearsals_39 (by decide) (by rw [hL3.1]; exact fun z => hend ((nI_eq (by omega) (by omega)).mp z)) ?_
        refine V_aload_n dX11_layRehearsals_59 rfl rfl (V_iload_n dX11_layRehearsals_60 rfl rfl (V_iload_n dX11_layRehearsals_61 rfl rfl ?_))
        refine V_cV2i (M' := M_X11_isTaken) (d' := 3) dX11_layRehearsals_62 (Or.inl ml_X11_256) kb_X11_isTaken (by first | assumption | exact ⟨by decide, rfl⟩) (by first | decide | omega) (by simp [Value.category]) ⟨by decide, by decide⟩ ?_
        refine mr_isTaken hB hM3 hD3 hDB hL3 ht (by omega) hG3 ⟨_, rfl, ?_⟩
        cases htk : tkn (itK K D.1 D.2.1 t) (chR ((lsM K D.1 D.2.1 (8 * K 0 0)).drop (k + 1)) h) (chR ((lsM K D.1 D.2.1 (8 * K 0 0)).drop (k + 1)) (h - (itK K D.1 D.2.1 t).2.2)) h
        · rw [htk] at hcr
          have hcr : chR ((lsM K D.1 D.2.1 (8 * K 0 0)).drop k) h = chR ((lsM K D.1 D.2.1 (8 * K 0 0)).drop (k + 1)) h := hcr
          obtain ⟨z1, z2⟩ := hG3 (k + 1) h (by omega) (by omega) hh
          refine V_if_eq_t (tgt := 127) dX11_layRehearsals_65 (by decide) (rfl) ?_
          refine V_aload_n dX11_layRehearsals_127 rfl rfl ?_
          refine V_getR dX11_layRehearsals_128 fl_X11_94 (by first | assumption | exact ⟨by decide, rfl⟩) (by first | assumption | rfl) ?_
          refine V_iload_n dX11_layRehearsals_131 rfl rfl (V_aload_n dX11_layRehearsals_132 rfl rfl ?_)
          refine V_getR dX11_layRehearsals_133 fl_X11_94 (by first | assumption | exact ⟨by decide, rfl⟩) (by first | assumption | rfl) ?_
          refine V_iload dX11_layRehearsals_136 rfl ?_
          refine V_ial dX11_layRehearsals_138 (by first | assumption | exact ⟨by decide, rfl⟩) (ixb9 hlt) ?_
          refine V_ias dX11_layRehearsals_139 (by first | assumption | exact ⟨by decide, rfl⟩) ixa9 ?_
          refine V_aload_n dX11_layRehearsals_140 rfl rfl ?_
          refine V_getR dX11_layRehearsals_141 fl_X11_97 (by first | assumption | exact ⟨by decide, rfl⟩) (by first | assumption | rfl) ?_
          refine V_iload_n dX11_layRehearsals_144 rfl rfl (V_aload_n dX11_layRehearsals_145 rfl rfl ?_)
          refine V_getR dX11_layRehearsals_146 fl_X11_97 (by first | assumption | exact ⟨by decide, rfl⟩) (by first | assumption | rfl) ?_
          refine V_iload dX11_layRehearsals_149 rfl ?_
          refine V_ial dX11_layRehearsals_151 (by first | assumption | exact ⟨by decide, rfl⟩) (ixb9 hlt) ?_
          refine V_ias dX11_layRehearsals_152 (by first | assumption | exact ⟨by decide, rfl⟩) ixa9 ?_
          exact fin _ _ none (by rw [z1, hcr]) (by rw [u2n (by omega), z2, hcr])
        · rw [htk, if_pos rfl] at hcr
          have ho := (of_decide_eq_true htk).1
          obtain ⟨z1, z2⟩ := hG3 (k + 1) (h - (itK K D.1 D.2.1 t).2.2) (by omega) (by omega) (by omega)
          refine V_if_eq_f (tgt := 127) dX11_layRehearsals_65 (by decide) (by decide) ?_
          refine V_aload_n dX11_layRehearsals_68 rfl rfl (V_aload_n dX11_layRehearsals_69 rfl rfl ?_)
          refine V_getR dX11_layRehearsals_70 fl_X11_91 (by first | assumption | exact ⟨by decide, rfl⟩) (by first | assumption | rfl) ?_
          refine V_iload_n dX11_layRehearsals_73 rfl rfl ?_
          refine V_ial dX11_layRehearsals_74 (by first | assumption | exact ⟨by decide, rfl⟩) (show ix _ k 80 from ⟨rfl, by omega⟩) ?_
          refine V_bipush (v := 8) dX11_layRehearsals_75 (by decide) (V_irem dX11_layRehearsals_77 (by decide) ?_)
          refine V_cV1i (M' := M_X11_hoursOf) (d' := 1) dX11_layRehearsals_78 (Or.inl ml_X11_244) kb_X11_hoursOf (by first | assumption | exact ⟨by decide, rfl⟩) (by first | decide | omega) (by simp [Value.category]) ⟨by decide, by decide⟩ ?_
          rw [e98, er]
          refine mr_hoursOf hB hM3 t4 ⟨_, rfl, ?_⟩
          have eo : (K 6 (t % 8) + 99) / 100 = (itK K D.1 D.2.1 t).2.2 := rfl
          rw [eo]
          refine V_istore_5 dX11_layRehearsals_81 (by decide) rfl (V_aload_n dX11_layRehearsals_83 rfl rfl ?_)
          refine V_getR dX11_layRehearsals_84 fl_X11_94 (by first | assumption | exact ⟨by decide, rfl⟩) (by first | assumption | rfl) ?_
          refine V_iload_n dX11_layRehearsals_87 rfl rfl (V_aload_n dX11_layRehearsals_88 rfl rfl (V_iload_n dX11_layRehearsals_89 rfl rfl ?_))
          refine V_cV1i (M' := M_X11_gainOf) (d' := 2) dX11_layRehearsals_90 (Or.inl ml_X11_250) kb_X11_gainOf (by first | assumption | exact ⟨by decide, rfl⟩) (by first | decide | omega) (by simp [Value.category]) ⟨by decide, by decide⟩ ?_
          refine mr_gainOf hB hM3 hD3 hDB hL3 ht ⟨_, rfl, ?_⟩
          have ixo : ix (nI (100 * (k + 1) + h) - nI (itK K D.1 D.2.1 t).2.2) (100 * (k + 1) + (h - (itK K D.1 D.2.1 t).2.2)) 8100 := ⟨by rw [pk_sub (by omega), show 100 * (k + 1) + h - (itK K D.1 D.2.1 t).2.2 = 100 * (k + 1) + (h - (itK K D.1 D.2.1 t).2.2) by omega], by omega⟩
          refine V_aload_n dX11_layRehearsals_93 rfl rfl ?_
          refine V_getR dX11_layRehearsals_94 fl_X11_94 (by first | assumption | exact ⟨by decide, rfl⟩) (by first | assumption | rfl) ?_
          refine V_iload dX11_layRehearsals_97 rfl (V_iload dX11_layRehearsals_99 rfl (V_isub dX11_layRehearsals_101 ?_))
          refine V_ial dX11_layRehearsals_102 (by first | assumption | exact ⟨by decide, rfl⟩) ixo ?_
          refine V_iadd dX11_layRehearsals_103 ?_
          refine V_ias dX11_layRehearsals_104 (by first | assumption | exact ⟨by decide, rfl⟩) ixa9 ?_
          refine V_aload_n dX11_layRehearsals_105 rfl rfl ?_
          refine V_getR dX11_layRehearsals_106 fl_X11_97 (by first | assumption | exact ⟨by decide, rfl⟩) (by first | assumption | rfl) ?_
          refine V_iload_n dX11_layRehearsals_109 rfl rfl (V_iload dX11_layRehearsals_110 rfl (V_aload_n dX11_layRehearsals_112 rfl rfl ?_))
          refine V_getR dX11_layRehearsals_113 fl_X11_97 (by first | assumption | exact ⟨by decide, rfl⟩) (by first | assumption | rfl) ?_
          refine V_iload dX11_layRehearsals_116 rfl (V_iload dX11_layRehearsals_118 rfl (V_isub dX11_layRehearsals_120 ?_))
          refine V_ial dX11_layRehearsals_121 (by first | assumption | exact ⟨by decide, rfl⟩) ixo ?_
          refine V_iadd dX11_layRehearsals_122 ?_
          refine V_ias dX11_layRehearsals_123 (by first | assumption | exact ⟨by decide, rfl⟩) ixa9 ?_
          refine V_goto (tgt := 153) dX11_layRehearsals_124 (by decide) ?_
          exact fin _ _ _ (by rw [z1, hcr, nI_add]; rfl) (by rw [u2n (by omega), z2, hcr, nI_add]; rfl)
  exact key 0 (Nat.zero_le _) I2 f2 hL2 hG2 (fun h' z => absurd z (by omega))
theorem mr_layRehearsals (hB : KB K) (hM : MB I K) (hR : MR I K) (hD : MDX I 0 D) (hDB : DB D.1 D.2.1) (Kk : ∀ I', FrH I I' → PRM I' (tlK K (8 * K 0 0)) → GW I' (lsM K D.1 D.2.1 (8 * K 0 0)) 0 → Post none NC I' J (RR co dr cc a1 a2)) : Cal E 4 M_X11_layRehearsals [.ref 70] NC I J (RR co dr cc a1 a2) Post := by
  have hRB := lsM_RB hB D.1 D.2.1
  have hll : (lsM K D.1 D.2.1 (8 * K 0 0)).length = (tlK K (8 * K 0 0)).length := by rw [lsM_tl, List.length_map]
  refine Cal_of kn_X11_layRehearsals rfl (Nat.le_of_ble_eq_true rfl) ?_
  refine V_aload_n dX11_layRehearsals_0 rfl rfl ?_
  refine V_cV0v (M' := M_X11_layPairs) (d' := 2) dX11_layRehearsals_1 (Or.inl ml_X11_253) kb_X11_layPairs (by first | assumption | exact ⟨by decide, rfl⟩) (by first | decide | omega) (by simp [Value.category]) ⟨by decide, by decide⟩ ?_
  refine mr_layPairs hB hM hR (fun I1 f1 hL => ⟨rfl, ?_⟩)
  refine V_aload_n dX11_layRehearsals_4 rfl rfl ?_
  refine V_getI dX11_layRehearsals_5 fl_X11_247 (by first | assumption | exact ⟨by decide, rfl⟩) ?_
  refine V_istore_1 dX11_layRehearsals_8 (by decide) rfl ?_
  rw [hL.1]
  have key : ∀ k, k ≤ (tlK K (8 * K 0 0)).length → ∀ I2, FrH I I2 → PRM I2 (tlK K (8 * K 0 0)) → GW I2 (lsM K D.1 D.2.1 (8 * K 0 0)) (k + 1) → V E 4 M_X11_layRehearsals Post 9 [some (.ref 70), some (.int (nI k)), none, none, none, none] [] NC 0 0 I2 J (RR co dr cc a1 a2) := by
    intro k
    induction k with
    | zero =>
      intro hk I2 f2 hL2 hG2
      refine row_step hB hM hD hDB hRB hll 0 hk I2 f2 hL2 hG2 (fun I3 a b c => ?_)
      refine V_iload_n dX11_layRehearsals_9 rfl rfl ?_
      refine V_if_lt_t (tgt := 165) dX11_layRehearsals_10 (by decide) (by decide) ?_
      refine V_return dX11_layRehearsals_165 rfl rfl (by decide) (by decide) ?_
      exact Kk I3 a b c
    | succ k ihk =>
      intro hk I2 f2 hL2 hG2
      refine row_step hB hM hD hDB hRB hll (k + 1) hk I2 f2 hL2 hG2 (fun I3 a b c => ?_)
      rw [add_m1, m1_nI]
      exact ihk (by omega) I3 a b c
  exact key _ (Nat.le_refl _) I1 (fun x y a b c e => f1 x y a e) hL (fun k h a b c => absurd b (by rw [hll]; omega))
end
section
variable {E : En} {I : TI} {J : TJ} {co dr : Nat} {cc a1 a2 : Option Nat} {Post : PT} {t : Nat → Nat} {len : Nat} {K : KT} {D D1 D2 : Di} {kp : Nat} {tl : Nat → Int32} {d : Nat}
theorem FrH.MS {I' : TI} (g : FrH I I') (h : MS t len K D D1 D2 kp tl I) : MS t len K D D1 D2 kp tl I' := h.sc (fun x y a b => g x y (by omega) (by omega) (by omega) (by omega)) (g _ _ (by omega) (by omega) (by omega) (by omega)) (g _ _ (by omega) (by omega) (by omega) (by omega))
theorem rop_rehearsals (hd : 5 ≤ d) (hDB : DB D.1 D.2.1) (h : MS t len K D D1 D2 kp tl I) {hr x : Int32} : Cal E d M_X11_rehearsals [.ref 70, .int hr, .int x] NC I J (RR co dr cc a1 a2) (MK t len K D D1 D2 kp tl (some (.int (a_rhs K D hr x))) I J (RR co dr cc a1 a2)) := by
  have h' := h
  obtain ⟨hB, hM, hR, hT, hD⟩ := h
  have hP := hB.1.1
  have e3 : (-3 : Int32).toInt = -3 := by decide
  refine Cal_of kn_X11_rehearsals rfl (Nat.le_of_ble_eq_true rfl) ?_
  refine V_iload_n dX11_rehearsals_0 rfl rfl (V_i2l dX11_rehearsals_1 (V_lconst (v := 0) dX11_rehearsals_2 rfl (V_ldc2_w dX11_rehearsals_3 ct_X11_151 ?_)))
  refine V_cS3i (M' := M_X11_in) (d' := 1) dX11_rehearsals_6 (Or.inl ml_X11_124) kb_X11_in (by first | decide | omega) (by simp [Value.category]) ⟨by decide, by decide⟩ ?_
  refine mr_in ⟨_, rfl, ?_⟩
  have eh : decide ((0 : Int64).toInt ≤ hr.toInt64.toInt ∧ hr.toInt64.toInt ≤ (99 : Int64).toInt) = inR hr 100 := by
    rw [in_C (u := 0) (v := 99) (by decide) (by decide)]
    exact decide_eq_decide.mpr (by omega)
  rw [eh]
  cases hv : inR hr 100
  · refine V_if_eq_t (tgt := 18) dX11_rehearsals_9 (by decide) (rfl) ?_
    refine V_iconst (v := (-1)) dX11_rehearsals_18 (by decide) ?_
    refine V_ireturn dX11_rehearsals_19 rfl rfl rfl (by decide) (by decide) ?_
    rw [a_rhs, hv]; exact MK.same h'
  · obtain ⟨q1, q2⟩ := inR_cl hv (by omega)
    by_cases hx : (-3 : Int32) ≤ x
    · have hRB := lsM_RB hB D.1 D.2.1
      have hceq := (chR_eq (lsM K D.1 D.2.1 (8 * K 0 0)) (fun y hy => (hRB.2 y hy).2) (cl hr) (by omega)).1
      have hans : a_rhs K D hr x = (if x = -1 then nI (gs (chR (lsM K D.1 D.2.1 (8 * K 0 0)) (cl hr))) else if x = -2 then nI (hs (chR (lsM K D.1 D.2.1 (8 * K 0 0)) (cl hr))) else if x = -3 then nI (chR (lsM K D.1 D.2.1 (8 * K 0 0)) (cl hr)).length else match (chR (lsM K D.1 D.2.1 (8 * K 0 0)) (cl hr))[cl x]? with | none => -4 | some y => nI y.1) := by
        rw [a_rhs, hv, decide_eq_true hx, hceq]; rfl
      rw [hans]
      clear hans hceq
      refine V_if_eq_f (tgt := 18) dX11_rehearsals_9 (by decide) (by decide) ?_
      refine V_iload_n dX11_rehearsals_12 rfl rfl (V_bipush (v := (-3)) dX11_rehearsals_13 (by decide) ?_)
      refine V_icmp_ge_t (tgt := 20) dX11_rehearsals_15 (by decide) (hx) ?_
      refine V_aload_n dX11_rehearsals_20 rfl rfl ?_
      refine V_cV0v (M' := M_X11_layRehearsals) (d' := 4) dX11_rehearsals_21 (Or.inl ml_X11_259) kb_X11_layRehearsals (by first | assumption | exact ⟨by decide, rfl⟩) (by first | decide | omega) (by simp [Value.category]) ⟨by decide, by decide⟩ ?_
      refine mr_layRehearsals hB hM hR hD.1 hDB (fun I1 f1 hL hG => ⟨rfl, ?_⟩)
      have fin : ∀ v, MK t len K D D1 D2 kp tl (some (.int v)) I J (RR co dr cc a1 a2) (some (.int v)) NC I1 J (RR co dr cc a1 a2) := fun v => ⟨rfl, rfl, rfl, f1.MS h', fun x y a => f1 x y (by omega) (by omega) (by omega) (by omega), fun _ _ _ => rfl⟩
      have hG0 := hG 0 (cl hr) (by omega) (Nat.zero_le _) (by omega)
      rw [Nat.mul_zero, Nat.zero_add, List.drop_zero] at hG0
      have hM1 := f1.MB hB hM
      have hD1 := f1.MDX hD.1
      have hll : (lsM K D.1 D.2.1 (8 * K 0 0)).length = (tlK K (8 * K 0 0)).length := by rw [lsM_tl, List.length_map]
      by_cases hx1 : x = -1
      · subst hx1
        refine V_iload_n dX11_rehearsals_24 rfl rfl (V_iconst (v := (-1)) dX11_rehearsals_25 (by decide) ?_)
        refine V_icmp_ne_f (tgt := 36) dX11_rehearsals_26 (by decide) (rfl) ?_
        refine V_aload_n dX11_rehearsals_29 rfl rfl ?_
        refine V_getR dX11_rehearsals_30 fl_X11_94 (by first | assumption | exact ⟨by decide, rfl⟩) (by first | assumption | rfl) ?_
        refine V_iload_n dX11_rehearsals_33 rfl rfl ?_
        refine V_ial dX11_rehearsals_34 (by first | assumption | exact ⟨by decide, rfl⟩) (show ix _ (cl hr) 8100 from ⟨q2, by omega⟩) ?_
        refine V_ireturn dX11_rehearsals_35 rfl rfl rfl (by decide) (by decide) ?_
        rw [hG0.1]; exact fin _
      by_cases hx2 : x = -2
      · subst hx2
        refine V_iload_n dX11_rehearsals_24 rfl rfl (V_iconst (v := (-1)) dX11_rehearsals_25 (by decide) ?_)
        refine V_icmp_ne_t (tgt := 36) dX11_rehearsals_26 (by decide) (by decide) ?_
        refine V_iload_n dX11_rehearsals_36 rfl rfl (V_bipush (v := (-2)) dX11_rehearsals_37 (by decide) ?_)
        refine V_icmp_ne_f (tgt := 49) dX11_rehearsals_39 (by decide) (rfl) ?_
        refine V_aload_n dX11_rehearsals_42 rfl rfl ?_
        refine V_getR dX11_rehearsals_43 fl_X11_97 (by first | assumption | exact ⟨by decide, rfl⟩) (by first | assumption | rfl) ?_
        refine V_iload_n dX11_rehearsals_46 rfl rfl ?_
        refine V_ial dX11_rehearsals_47 (by first | assumption | exact ⟨by decide, rfl⟩) (show ix _ (cl hr) 8100 from ⟨q2, by omega⟩) ?_
        refine V_ireturn dX11_rehearsals_48 rfl rfl rfl (by decide) (by decide) ?_
        rw [hG0.2]; exact fin _
      rw [if_neg hx1, if_neg hx2]
      have hlen80 := hRB.1
      have key : ∀ r k C, k + r = (tlK K (8 * K 0 0)).length → C.length ≤ k → hs C ≤ cl hr → chR (lsM K D.1 D.2.1 (8 * K 0 0)) (cl hr) = C ++ chR ((lsM K D.1 D.2.1 (8 * K 0 0)).drop k) (cl hr - hs C) → (¬ x = -3 → C.length ≤ cl x) → V E d M_X11_rehearsals (MK t len K D D1 D2 kp tl (some (.int (if x = -3 then nI (chR (lsM K D.1 D.2.1 (8 * K 0 0)) (cl hr)).length else match (chR (lsM K D.1 D.2.1 (8 * K 0 0)) (cl hr))[cl x]? with | none => -4 | some y => nI y.1))) I J (RR co dr cc a1 a2)) 57 [some (.ref 70), some (.int hr), some (.int x), some (.int (nI (cl hr - hs C))), some (.int (nI C.length)), some (.int (nI k))] [] NC 0 0 I1 J (RR co dr cc a1 a2) := by
        intro r
        induction r with
        | zero =>
          intro k C hk hCk hCh hap hcx
          have hdr : (lsM K D.1 D.2.1 (8 * K 0 0)).drop k = [] := List.drop_eq_nil_of_le (by omega)
          rw [hdr] at hap
          have hap : chR (lsM K D.1 D.2.1 (8 * K 0 0)) (cl hr) = C := by rw [hap]; simp [chR]
          rw [hap]
          by_cases hx3 : x = -3
          · subst hx3
            refine V_iload dX11_rehearsals_57 rfl (V_aload_n dX11_rehearsals_59 rfl rfl ?_)
            refine V_getI dX11_rehearsals_60 fl_X11_247 (by first | assumption | exact ⟨by decide, rfl⟩) ?_
            refine V_icmp_ge_t (tgt := 133) dX11_rehearsals_63 (by decide) (by rw [hL.1]; exact nI_le (by omega) (by omega)) ?_
            refine V_iload_n dX11_rehearsals_133 rfl rfl (V_bipush (v := (-3)) dX11_rehearsals_134 (by decide) ?_)
            refine V_icmp_ne_f (tgt := 144) dX11_rehearsals_136 (by decide) (rfl) ?_
            refine V_iload dX11_rehearsals_139 rfl (V_goto (tgt := 146) dX11_rehearsals_141 (by decide) ?_)
            refine V_ireturn dX11_rehearsals_146 rfl rfl rfl (by decide) (by decide) ?_
            exact fin _
          · refine V_iload dX11_rehearsals_57 rfl (V_aload_n dX11_rehearsals_59 rfl rfl ?_)
            refine V_getI dX11_rehearsals_60 fl_X11_247 (by first | assumption | exact ⟨by decide, rfl⟩) ?_
            refine V_icmp_ge_t (tgt := 133) dX11_rehearsals_63 (by decide) (by rw [hL.1]; exact nI_le (by omega) (by omega)) ?_
            refine V_iload_n dX11_rehearsals_133 rfl rfl (V_bipush (v := (-3)) dX11_rehearsals_134 (by decide) ?_)
            refine V_icmp_ne_t (tgt := 144) dX11_rehearsals_136 (by decide) (hx3) ?_
            refine V_bipush (v := (-4)) dX11_rehearsals_144 (by decide) ?_
            refine V_ireturn dX11_rehearsals_146 rfl rfl rfl (by decide) (by decide) ?_
            rw [if_neg hx3, List.getElem?_eq_none (hcx hx3)]
            exact fin _
        | succ r ih =>
          intro k C hk hCk hCh hap hcx
          have hlt : k < (tlK K (8 * K 0 0)).length := by omega
          obtain ⟨u, hu⟩ : ∃ u, (tlK K (8 * K 0 0))[k]? = some u := ⟨_, List.getElem?_eq_getElem hlt⟩
          obtain ⟨t1, t2, t3, t4⟩ := tl_at hB hu
          have hMk := lsM_at (D := D) hu
          have hcr := chR_at hMk (cl hr - hs C)
          have e98 := hL.2 k u hu
          have e8 : (8 : Int32) = nI 8 := rfl
          have er : nI u - nI u / 8 * 8 = nI (u % 8) := by rw [e8, pk_rem (by omega) (by omega) (by omega)]
          have eq : nI u / 8 = nI (u / 8) := by rw [e8, pk_div (by omega) (by omega) (by omega)]
          refine V_iload dX11_rehearsals_57 rfl (V_aload_n dX11_rehearsals_59 rfl rfl ?_)
          refine V_getI dX11_rehearsals_60 fl_X11_247 (by first | assumption | exact ⟨by decide, rfl⟩) ?_
          refine V_icmp_ge_f (tgt := 133) dX11_rehearsals_63 (by decide) (by rw [hL.1]; exact nI_ge hlt (by omega)) ?_
          refine V_aload_n dX11_rehearsals_66 rfl rfl (V_iload dX11_rehearsals_67 rfl (V_iload_n dX11_rehearsals_69 rfl rfl ?_))
          refine V_cV2i (M' := M_X11_isTaken) (d' := 3) dX11_rehearsals_70 (Or.inl ml_X11_256) kb_X11_isTaken (by first | assumption | exact ⟨by decide, rfl⟩) (by first | decide | omega) (by simp [Value.category]) ⟨by decide, by decide⟩ ?_
          refine mr_isTaken hB hM1 hD1 hDB hL hu (by omega) (fun k' h' a b c => hG k' h' (by omega) b c) ⟨_, rfl, ?_⟩
          cases htk : tkn (itK K D.1 D.2.1 u) (chR ((lsM K D.1 D.2.1 (8 * K 0 0)).drop (k + 1)) (cl hr - hs C)) (chR ((lsM K D.1 D.2.1 (8 * K 0 0)).drop (k + 1)) (cl hr - hs C - (itK K D.1 D.2.1 u).2.2)) (cl hr - hs C)
          · rw [htk] at hcr
            refine V_if_eq_t (tgt := 127) dX11_rehearsals_73 (by decide) (rfl) ?_
            refine V_iinc_5 (w := 1) dX11_rehearsals_127 (by decide) (by decide) rfl (V_goto (tgt := 57) dX11_rehearsals_130 (by decide) ?_)
            rw [nI_1]
            exact ih (k + 1) C (by omega) (by omega) hCh (by rw [hap, hcr]; rfl) hcx
          · rw [htk, if_pos rfl] at hcr
            rw [hcr] at hap
            have ho := (of_decide_eq_true htk).1
            have hap1 : chR (lsM K D.1 D.2.1 (8 * K 0 0)) (cl hr) = (C ++ [itK K D.1 D.2.1 u]) ++ chR ((lsM K D.1 D.2.1 (8 * K 0 0)).drop (k + 1)) (cl hr - hs C - (itK K D.1 D.2.1 u).2.2) := by rw [hap]; simp
            have hsC : hs (C ++ [itK K D.1 D.2.1 u]) = hs C + (itK K D.1 D.2.1 u).2.2 := by rw [hs_app]; rfl
            have t107 : (¬ x = -3 → C.length + 1 ≤ cl x) → V E d M_X11_rehearsals (MK t len K D D1 D2 kp tl (some (.int (if x = -3 then nI (chR (lsM K D.1 D.2.1 (8 * K 0 0)) (cl hr)).length else match (chR (lsM K D.1 D.2.1 (8 * K 0 0)) (cl hr))[cl x]? with | none => -4 | some y => nI y.1))) I J (RR co dr cc a1 a2)) 107 [some (.ref 70), some (.int hr), some (.int x), some (.int (nI (cl hr - hs C))), some (.int (nI C.length)), some (.int (nI k))] [] NC 0 0 I1 J (RR co dr cc a1 a2) := by
              intro hcx1
              refine V_iinc_4 (w := 1) dX11_rehearsals_107 (by decide) (by decide) rfl (V_iload_n dX11_rehearsals_110 rfl rfl (V_aload_n dX11_rehearsals_111 rfl rfl (V_aload_n dX11_rehearsals_112 rfl rfl ?_)))
              refine V_getR dX11_rehearsals_113 fl_X11_91 (by first | assumption | exact ⟨by decide, rfl⟩) (by first | assumption | rfl) ?_
              refine V_iload dX11_rehearsals_116 rfl ?_
              refine V_ial dX11_rehearsals_118 (by first | assumption | exact ⟨by decide, rfl⟩) (show ix _ k 80 from ⟨rfl, by omega⟩) ?_
              refine V_bipush (v := 8) dX11_rehearsals_119 (by decide) (V_irem dX11_rehearsals_121 (by decide) ?_)
              refine V_cV1i (M' := M_X11_hoursOf) (d' := 1) dX11_rehearsals_122 (Or.inl ml_X11_244) kb_X11_hoursOf (by first | assumption | exact ⟨by decide, rfl⟩) (by first | decide | omega) (by simp [Value.category]) ⟨by decide, by decide⟩ ?_
              rw [e98, er]
              refine mr_hoursOf hB hM1 t4 ⟨_, rfl, ?_⟩
              have eo : (K 6 (u % 8) + 99) / 100 = (itK K D.1 D.2.1 u).2.2 := rfl
              rw [eo]
              refine V_isub dX11_rehearsals_125 (V_istore_3 dX11_rehearsals_126 (by decide) rfl (V_iinc_5 (w := 1) dX11_rehearsals_127 (by decide) (by decide) rfl (V_goto (tgt := 57) dX11_rehearsals_130 (by decide) ?_)))
              rw [pk_sub ho, nI_1, nI_1]
              have h9 := ih (k + 1) (C ++ [itK K D.1 D.2.1 u]) (by omega) (by simp; omega) (by rw [hsC]; omega) (by rw [hsC, hap1, show cl hr - (hs C + (itK K D.1 D.2.1 u).2.2) = cl hr - hs C - (itK K D.1 D.2.1 u).2.2 by omega]) (by simpa using hcx1)
              rw [hsC, show cl hr - (hs C + (itK K D.1 D.2.1 u).2.2) = cl hr - hs C - (itK K D.1 D.2.1 u).2.2 by omega, show (C ++ [itK K D.1 D.2.1 u]).length = C.length + 1 by simp] at h9
              exact h9
            by_cases hx3 : x = -3
            · subst hx3
              refine V_if_eq_f (tgt := 127) dX11_rehearsals_73 (by decide) (by decide) ?_
              refine V_iload dX11_rehearsals_76 rfl (V_iload_n dX11_rehearsals_78 rfl rfl ?_)
              refine V_icmp_ne_t (tgt := 107) dX11_rehearsals_79 (by decide) (fun z => by have := congrArg Int32.toInt z; rw [nI_toInt (by omega), e3] at this; omega) ?_
              exact t107 (fun z => absurd rfl z)
            · have hx0 : ¬ x < 0 := fun z => by
                have hx3' : ¬ x < -3 := by
                  intro y
                  have y1 := (fa_lt _ _).mp y
                  have y2 := (fa_le _ _).mp hx
                  omega
                rcases neg3 z hx3' with y | y | y
                · exact hx1 y
                · exact hx2 y
                · exact hx3 y
              obtain ⟨w1, w2⟩ := nn_cl hx0
              have hcx := hcx hx3
              by_cases hcw : C.length = cl x
              · refine V_if_eq_f (tgt := 127) dX11_rehearsals_73 (by decide) (by decide) ?_
                refine V_iload dX11_rehearsals_76 rfl (V_iload_n dX11_rehearsals_78 rfl rfl ?_)
                refine V_icmp_ne_f (tgt := 107) dX11_rehearsals_79 (by decide) (by rw [w2, hcw]) ?_
                refine V_bipush (v := 10) dX11_rehearsals_82 (by decide) (V_aload_n dX11_rehearsals_84 rfl rfl ?_)
                refine V_getR dX11_rehearsals_85 fl_X11_91 (by first | assumption | exact ⟨by decide, rfl⟩) (by first | assumption | rfl) ?_
                refine V_iload dX11_rehearsals_88 rfl ?_
                refine V_ial dX11_rehearsals_90 (by first | assumption | exact ⟨by decide, rfl⟩) (show ix _ k 80 from ⟨rfl, by omega⟩) ?_
                refine V_bipush (v := 8) dX11_rehearsals_91 (by decide) (V_idiv dX11_rehearsals_93 (by decide) (V_imul dX11_rehearsals_94 (V_aload_n dX11_rehearsals_95 rfl rfl ?_)))
                refine V_getR dX11_rehearsals_96 fl_X11_91 (by first | assumption | exact ⟨by decide, rfl⟩) (by first | assumption | rfl) ?_
                refine V_iload dX11_rehearsals_99 rfl ?_
                refine V_ial dX11_rehearsals_101 (by first | assumption | exact ⟨by decide, rfl⟩) (show ix _ k 80 from ⟨rfl, by omega⟩) ?_
                refine V_bipush (v := 8) dX11_rehearsals_102 (by decide) (V_irem dX11_rehearsals_104 (by decide) (V_iadd dX11_rehearsals_105 ?_))
                refine V_ireturn dX11_rehearsals_106 rfl rfl rfl (by decide) (by decide) ?_
                rw [e98, er, eq, show (10 : Int32) = nI 10 from rfl, pk_mul, nI_add, if_neg hx3, hap1, List.getElem?_append_left (by simp; omega), List.getElem?_append_right (by omega), hcw, Nat.sub_self]
                exact fin _
              · refine V_if_eq_f (tgt := 127) dX11_rehearsals_73 (by decide) (by decide) ?_
                refine V_iload dX11_rehearsals_76 rfl (V_iload_n dX11_rehearsals_78 rfl rfl ?_)
                refine V_icmp_ne_t (tgt := 107) dX11_rehearsals_79 (by decide) (by rw [w2]; exact fun z => hcw ((nI_eq (by omega) (by omega)).mp z)) ?_
                exact t107 (fun _ => by omega)
      refine V_iload_n dX11_rehearsals_24 rfl rfl (V_iconst (v := (-1)) dX11_rehearsals_25 (by decide) ?_)
      refine V_icmp_ne_t (tgt := 36) dX11_rehearsals_26 (by decide) (hx1) ?_
      refine V_iload_n dX11_rehearsals_36 rfl rfl (V_bipush (v := (-2)) dX11_rehearsals_37 (by decide) ?_)
      refine V_icmp_ne_t (tgt := 49) dX11_rehearsals_39 (by decide) (hx2) ?_
      refine V_iload_n dX11_rehearsals_49 rfl rfl (V_istore_3 dX11_rehearsals_50 (by decide) rfl (V_iconst (v := 0) dX11_rehearsals_51 (by decide) (V_istore_4 dX11_rehearsals_52 (by decide) rfl (V_iconst (v := 0) dX11_rehearsals_54 (by decide) (V_istore_5 dX11_rehearsals_55 (by decide) rfl ?_)))))
      have h9 := key (tlK K (8 * K 0 0)).length 0 [] (by omega) (Nat.zero_le _) (Nat.zero_le _) (by rw [List.drop_zero]; rfl) (fun _ => Nat.zero_le _)
      rw [show nI (cl hr - hs []) = hr from q2.symm] at h9
      exact h9
    · refine V_if_eq_f (tgt := 18) dX11_rehearsals_9 (by decide) (by decide) ?_
      refine V_iload_n dX11_rehearsals_12 rfl rfl (V_bipush (v := (-3)) dX11_rehearsals_13 (by decide) ?_)
      refine V_icmp_ge_f (tgt := 20) dX11_rehearsals_15 (by decide) (hx) ?_
      refine V_iconst (v := (-1)) dX11_rehearsals_18 (by decide) ?_
      refine V_ireturn dX11_rehearsals_19 rfl rfl rfl (by decide) (by decide) ?_
      rw [a_rhs, hv, decide_eq_false hx]; exact MK.same h'
end
