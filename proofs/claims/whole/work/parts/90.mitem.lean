/-! The reference takes an item -/
def rif (t : Nat → Nat) (len m u : Nat) (K : KT) (k : Nat) : Option (Nat × KT) := (fgs t len m k).bind (fun q => (takeK K u (fun j => q.2.getD j 0) m).map (fun K' => (q.1, K')))
theorem rif_none {t : Nat → Nat} {len m u : Nat} {K : KT} {k : Nat} (h : fgs t len m k = none) : rif t len m u K k = none := by unfold rif; rw [h]; rfl
theorem rif_some {t : Nat → Nat} {len m u : Nat} {K : KT} {k p : Nat} {l : List Nat} (h : fgs t len m k = some (p, l)) : rif t len m u K k = (takeK K u (fun j => l.getD j 0) m).map (fun K' => (p, K')) := by unfold rif; rw [h]; rfl
theorem Fr1.fig {I I' : TI} (h : ∀ x y, x ≠ 92 → (x ≠ 70 ∨ y ≠ 23) → I' x y = I x y) : Fr1 I I' := fun x y a b _ => h x y a b
theorem M1.fig {I I' : TI} {K : KT} (hX : M1 I K) (h : ∀ x y, x ≠ 92 → (x ≠ 70 ∨ y ≠ 23) → I' x y = I x y) : M1 I' K := hX.of (fun x y a b => h x y (by omega) (by omega))
def IT (t : Nat → Nat) (len m u : Nat) (K : KT) (k : Nat) (Post : PT) (I : TI) (J : TJ) (R : TR) : Prop := (rif t len m u K k = none → ∀ I', Fr1 I I' → Post (some (.int 0)) NC I' J R) ∧ ∀ p K', rif t len m u K k = some (p, K') → ∀ I', Fr1 I I' → I' 70 23 = nI p → M1 I' K' → Post (some (.int 1)) NC I' J R
section
variable {E : En} {I : TI} {J : TJ} {co dr : Nat} {cc a1 a2 : Option Nat} {Post : PT} {K : KT} {t : Nat → Nat} {len : Nat} {d k : Nat}
theorem mr_playerItem (hT : MTX I t len) (hB : KB K) (hX : M1 I K) (hk : I 70 23 = nI k) (hk2 : k ≤ 500) (Kk : IT t len 2 97 K k Post I J (RR co dr cc a1 a2)) : Cal E 3 M_X11_playerItem [.ref 70] NC I J (RR co dr cc a1 a2) Post := by
  have hP := hB.1.1
  refine Cal_of kn_X11_playerItem rfl (Nat.le_of_ble_eq_true rfl) ?_
  refine V_aload_n dX11_playerItem_0 rfl rfl ?_
  refine V_getR dX11_playerItem_1 fl_X11_13 (by first | assumption | exact ⟨by decide, rfl⟩) (by first | assumption | rfl) ?_
  refine V_iconst (v := 1) dX11_playerItem_4 (by decide) ?_
  refine V_ial dX11_playerItem_5 (by first | assumption | exact ⟨by decide, rfl⟩) (show ix _ 1 _ from ⟨rfl, by decide⟩) ?_
  refine V_istore_1 dX11_playerItem_6 (by decide) rfl (V_aload_n dX11_playerItem_7 rfl rfl (V_iconst (v := 2) dX11_playerItem_8 (by decide) ?_))
  refine V_cV1i (M' := M_X11_figures) (d' := 2) dX11_playerItem_9 (Or.inl ml_X11_147) kb_X11_figures (by first | assumption | exact ⟨by decide, rfl⟩) (by first | decide | omega) (by simp [Value.category]) ⟨by decide, by decide⟩ ?_
  rw [hX.1]
  refine mr_figures hT (m := 2) (by decide) hk hk2 (fun hn I1 g1 => ⟨_, rfl, ?_⟩) (fun p l hs I1 g1 g2 g3 => ⟨_, rfl, ?_⟩)
  · refine V_if_eq_t (tgt := 43) dX11_playerItem_12 (by decide) (rfl) ?_
    refine V_iconst (v := 0) dX11_playerItem_43 (by decide) ?_
    refine V_ireturn dX11_playerItem_44 rfl rfl rfl (by decide) (by decide) ?_
    exact Kk.1 (rif_none hn) I1 (Fr1.fig g1)
  · have hX := hX.fig g1
    have hle := (fgs_le t len 2 k p l hs).1
    have l0 := g3 0 (by decide)
    have l1 := g3 1 (by decide)
    have b0 := hle 0
    have b1 := hle 1
    have tk : takeK K 97 (fun j => l.getD j 0) 2 = if K 0 0 < 10 ∧ l.getD 0 0 ≤ 99 ∧ l.getD 1 0 ≤ 15 then some (aPl K (l.getD 0 0) (l.getD 1 0)) else none := by simp [takeK]
    have hr := rif_some (u := 97) (K := K) hs
    rw [tk] at hr
    generalize l.getD 0 0 = a at *
    generalize l.getD 1 0 = b at *
    by_cases c1 : K 0 0 < 10
    · have n1 : ¬ nI (K 0 0) = 10 := fun z => by have := (nI_eq (by omega) (by omega)).mp (z.trans (show (10 : Int32) = nI 10 from rfl)); omega
      by_cases c2 : a ≤ 99
      · have n2 : ¬ (99 : Int32) < I1 92 0 := by rw [l0, show (99 : Int32) = nI 99 from rfl, lit_lt (by omega) (by omega)]; omega
        by_cases c3 : b ≤ 15
        · have n3 : I1 92 1 ≤ (15 : Int32) := by rw [l1, show (15 : Int32) = nI 15 from rfl, lit_le (by omega) (by omega)]; omega
          rw [if_pos ⟨c1, c2, c3⟩] at hr
          refine V_if_eq_f (tgt := 43) dX11_playerItem_12 (by decide) (by decide) ?_
          refine V_iload_n dX11_playerItem_15 rfl rfl (V_bipush (v := 10) dX11_playerItem_16 (by decide) ?_)
          refine V_icmp_eq_f (tgt := 43) dX11_playerItem_18 (by decide) (n1) ?_
          refine V_aload_n dX11_playerItem_21 rfl rfl ?_
          refine V_getR dX11_playerItem_22 fl_X11_73 (by first | assumption | exact ⟨by decide, rfl⟩) (by first | assumption | rfl) ?_
          refine V_iconst (v := 0) dX11_playerItem_25 (by decide) ?_
          refine V_ial dX11_playerItem_26 (by first | assumption | exact ⟨by decide, rfl⟩) (show ix _ 0 _ from ⟨rfl, by decide⟩) ?_
          refine V_bipush (v := 99) dX11_playerItem_27 (by decide) ?_
          refine V_icmp_gt_f (tgt := 43) dX11_playerItem_29 (by decide) (n2) ?_
          refine V_aload_n dX11_playerItem_32 rfl rfl ?_
          refine V_getR dX11_playerItem_33 fl_X11_73 (by first | assumption | exact ⟨by decide, rfl⟩) (by first | assumption | rfl) ?_
          refine V_iconst (v := 1) dX11_playerItem_36 (by decide) ?_
          refine V_ial dX11_playerItem_37 (by first | assumption | exact ⟨by decide, rfl⟩) (show ix _ 1 _ from ⟨rfl, by decide⟩) ?_
          refine V_bipush (v := 15) dX11_playerItem_38 (by decide) ?_
          refine V_icmp_le_t (tgt := 45) dX11_playerItem_40 (by decide) (n3) ?_
          refine V_aload_n dX11_playerItem_45 rfl rfl ?_
          refine V_getR dX11_playerItem_46 fl_X11_16 (by first | assumption | exact ⟨by decide, rfl⟩) (by first | assumption | rfl) ?_
          refine V_bipush (v := 10) dX11_playerItem_49 (by decide) (V_iload_n dX11_playerItem_51 rfl rfl (V_iadd dX11_playerItem_52 (V_aload_n dX11_playerItem_53 rfl rfl ?_)))
          refine V_getR dX11_playerItem_54 fl_X11_73 (by first | assumption | exact ⟨by decide, rfl⟩) (by first | assumption | rfl) ?_
          refine V_iconst (v := 0) dX11_playerItem_57 (by decide) ?_
          refine V_ial dX11_playerItem_58 (by first | assumption | exact ⟨by decide, rfl⟩) (show ix _ 0 _ from ⟨rfl, by decide⟩) ?_
          refine V_ias dX11_playerItem_59 (by first | assumption | exact ⟨by decide, rfl⟩) (show ix _ (10 + K 0 0) 20 from ixa (a := 10) (by omega)) ?_
          refine V_aload_n dX11_playerItem_60 rfl rfl ?_
          refine V_getR dX11_playerItem_61 fl_X11_19 (by first | assumption | exact ⟨by decide, rfl⟩) (by first | assumption | rfl) ?_
          refine V_bipush (v := 10) dX11_playerItem_64 (by decide) (V_iload_n dX11_playerItem_66 rfl rfl (V_iadd dX11_playerItem_67 (V_aload_n dX11_playerItem_68 rfl rfl ?_)))
          refine V_getR dX11_playerItem_69 fl_X11_73 (by first | assumption | exact ⟨by decide, rfl⟩) (by first | assumption | rfl) ?_
          refine V_iconst (v := 1) dX11_playerItem_72 (by decide) ?_
          refine V_ial dX11_playerItem_73 (by first | assumption | exact ⟨by decide, rfl⟩) (show ix _ 1 _ from ⟨rfl, by decide⟩) ?_
          refine V_ias dX11_playerItem_74 (by first | assumption | exact ⟨by decide, rfl⟩) (show ix _ (10 + K 0 0) 20 from ixa (a := 10) (by omega)) ?_
          refine V_aload_n dX11_playerItem_75 rfl rfl ?_
          refine V_getR dX11_playerItem_76 fl_X11_13 (by first | assumption | exact ⟨by decide, rfl⟩) (by first | assumption | rfl) ?_
          refine V_iconst (v := 1) dX11_playerItem_79 (by decide) (V_dup2 dX11_playerItem_80 rfl rfl ?_)
          refine V_ial dX11_playerItem_81 (by first | assumption | exact ⟨by decide, rfl⟩) (show ix _ 1 _ from ⟨rfl, by decide⟩) ?_
          refine V_iconst (v := 1) dX11_playerItem_82 (by decide) (V_iadd dX11_playerItem_83 ?_)
          refine V_ias dX11_playerItem_84 (by first | assumption | exact ⟨by decide, rfl⟩) (show ix _ 1 _ from ⟨rfl, by decide⟩) ?_
          refine V_iconst (v := 1) dX11_playerItem_85 (by decide) ?_
          refine V_ireturn dX11_playerItem_86 rfl rfl rfl (by decide) (by decide) ?_
          refine Kk.2 p _ hr _ (fun x y a b c => by have := ofs_f x; rw [u2n (by omega), u2n (by omega), u2n (by omega)]; exact g1 x y a b) (by rw [u2n (by omega), u2n (by omega), u2n (by omega)]; exact g2) ?_
          obtain ⟨a1, a2, a3, a4, b1, b2, b3, b4, b5, d1, d2, e, f1, f2, f3, f4, g, k1, k2, l⟩ := hX
          refine ⟨?_, ?_, ?_, ?_, ?_, ?_, ?_, ?_, ?_, fun p hp => ?_, fun p hp => ?_, fun p hp => ?_, fun p hp => ?_, fun p hp => ?_, fun p hp => ?_, fun p hp => ?_, fun p hp => ?_, fun p hp => ?_, fun p hp => ?_, fun p hp => ?_⟩
          · simp [up2, aPl, a1, nI_1]
          · simp [up2, aPl, a2, nI_1]
          · simp [up2, aPl, a3, nI_1]
          · simp [up2, aPl, a4, nI_1]
          · simp [up2, aPl, b1, nI_1]
          · simp [up2, aPl, b2, nI_1]
          · simp [up2, aPl, b3, nI_1]
          · simp [up2, aPl, b4, nI_1]
          · simp [up2, aPl, b5, nI_1]
          · have hp' : p < K 0 0 + 1 := by simpa [up2, aPl] using hp
            by_cases h : p = K 0 0
            · rw [h]; simp [up2, aPl, l0]
            · have z := d1 p (by omega); simp [up2, aPl, h, z]
          · have hp' : p < K 0 0 + 1 := by simpa [up2, aPl] using hp
            by_cases h : p = K 0 0
            · rw [h]; simp [up2, aPl, l1]
            · have z := d2 p (by omega); simp [up2, aPl, h, z]
          · simp [up2, aPl, e p hp]
          · have hp : p < K 0 1 := by simpa [up2, aPl] using hp
            simp [up2, aPl, f1 p hp]
          · have hp : p < K 0 1 := by simpa [up2, aPl] using hp
            simp [up2, aPl, f2 p hp]
          · have hp : p < K 0 1 := by simpa [up2, aPl] using hp
            simp [up2, aPl, f3 p hp]
          · have hp : p < K 0 1 := by simpa [up2, aPl] using hp
            simp [up2, aPl, f4 p hp]
          · simp [up2, aPl, g p hp]
          · have hp : p < K 0 2 := by simpa [up2, aPl] using hp
            simp [up2, aPl, k1 p hp]
          · have hp : p < K 0 2 := by simpa [up2, aPl] using hp
            simp [up2, aPl, k2 p hp]
          · simp [up2, aPl, l p hp]
        · rw [if_neg (fun z => c3 z.2.2)] at hr
          have n3 : ¬ I1 92 1 ≤ (15 : Int32) := by rw [l1, show (15 : Int32) = nI 15 from rfl, lit_le (by omega) (by omega)]; omega
          refine V_if_eq_f (tgt := 43) dX11_playerItem_12 (by decide) (by decide) ?_
          refine V_iload_n dX11_playerItem_15 rfl rfl (V_bipush (v := 10) dX11_playerItem_16 (by decide) ?_)
          refine V_icmp_eq_f (tgt := 43) dX11_playerItem_18 (by decide) (n1) ?_
          refine V_aload_n dX11_playerItem_21 rfl rfl ?_
          refine V_getR dX11_playerItem_22 fl_X11_73 (by first | assumption | exact ⟨by decide, rfl⟩) (by first | assumption | rfl) ?_
          refine V_iconst (v := 0) dX11_playerItem_25 (by decide) ?_
          refine V_ial dX11_playerItem_26 (by first | assumption | exact ⟨by decide, rfl⟩) (show ix _ 0 _ from ⟨rfl, by decide⟩) ?_
          refine V_bipush (v := 99) dX11_playerItem_27 (by decide) ?_
          refine V_icmp_gt_f (tgt := 43) dX11_playerItem_29 (by decide) (n2) ?_
          refine V_aload_n dX11_playerItem_32 rfl rfl ?_
          refine V_getR dX11_playerItem_33 fl_X11_73 (by first | assumption | exact ⟨by decide, rfl⟩) (by first | assumption | rfl) ?_
          refine V_iconst (v := 1) dX11_playerItem_36 (by decide) ?_
          refine V_ial dX11_playerItem_37 (by first | assumption | exact ⟨by decide, rfl⟩) (show ix _ 1 _ from ⟨rfl, by decide⟩) ?_
          refine V_bipush (v := 15) dX11_playerItem_38 (by decide) ?_
          refine V_icmp_le_f (tgt := 45) dX11_playerItem_40 (by decide) (n3) ?_
          refine V_iconst (v := 0) dX11_playerItem_43 (by decide) ?_
          refine V_ireturn dX11_playerItem_44 rfl rfl rfl (by decide) (by decide) ?_
          exact Kk.1 hr I1 (Fr1.fig g1)
      · rw [if_neg (fun z => c2 z.2.1)] at hr
        have n2 : (99 : Int32) < I1 92 0 := by rw [l0, show (99 : Int32) = nI 99 from rfl, lit_lt (by omega) (by omega)]; omega
        refine V_if_eq_f (tgt := 43) dX11_playerItem_12 (by decide) (by decide) ?_
        refine V_iload_n dX11_playerItem_15 rfl rfl (V_bipush (v := 10) dX11_playerItem_16 (by decide) ?_)
        refine V_icmp_eq_f (tgt := 43) dX11_playerItem_18 (by decide) (n1) ?_
        refine V_aload_n dX11_playerItem_21 rfl rfl ?_
        refine V_getR dX11_playerItem_22 fl_X11_73 (by first | assumption | exact ⟨by decide, rfl⟩) (by first | assumption | rfl) ?_
        refine V_iconst (v := 0) dX11_playerItem_25 (by decide) ?_
        refine V_ial dX11_playerItem_26 (by first | assumption | exact ⟨by decide, rfl⟩) (show ix _ 0 _ from ⟨rfl, by decide⟩) ?_
        refine V_bipush (v := 99) dX11_playerItem_27 (by decide) ?_
        refine V_icmp_gt_t (tgt := 43) dX11_playerItem_29 (by decide) (n2) ?_
        refine V_iconst (v := 0) dX11_playerItem_43 (by decide) ?_
        refine V_ireturn dX11_playerItem_44 rfl rfl rfl (by decide) (by decide) ?_
        exact Kk.1 hr I1 (Fr1.fig g1)
    · rw [if_neg (fun z => c1 z.1)] at hr
      refine V_if_eq_f (tgt := 43) dX11_playerItem_12 (by decide) (by decide) ?_
      refine V_iload_n dX11_playerItem_15 rfl rfl (V_bipush (v := 10) dX11_playerItem_16 (by decide) ?_)
      refine V_icmp_eq_t (tgt := 43) dX11_playerItem_18 (by decide) (by rw [show K 0 0 = 10 by omega]; rfl) ?_
      refine V_iconst (v := 0) dX11_playerItem_43 (by decide) ?_
      refine V_ireturn dX11_playerItem_44 rfl rfl rfl (by decide) (by decide) ?_
      exact Kk.1 hr I1 (Fr1.fig g1)
theorem mr_partItem (hT : MTX I t len) (hB : KB K) (hX : M1 I K) (hk : I 70 23 = nI k) (hk2 : k ≤ 500) (Kk : IT t len 4 112 K k Post I J (RR co dr cc a1 a2)) : Cal E 3 M_X11_partItem [.ref 70] NC I J (RR co dr cc a1 a2) Post := by
  have hQ := hB.1.2.1
  refine Cal_of kn_X11_partItem rfl (Nat.le_of_ble_eq_true rfl) ?_
  refine V_aload_n dX11_partItem_0 rfl rfl ?_
  refine V_getR dX11_partItem_1 fl_X11_22 (by first | assumption | exact ⟨by decide, rfl⟩) (by first | assumption | rfl) ?_
  refine V_iconst (v := 1) dX11_partItem_4 (by decide) ?_
  refine V_ial dX11_partItem_5 (by first | assumption | exact ⟨by decide, rfl⟩) (show ix _ 1 _ from ⟨rfl, by decide⟩) ?_
  refine V_istore_1 dX11_partItem_6 (by decide) rfl (V_aload_n dX11_partItem_7 rfl rfl (V_iconst (v := 4) dX11_partItem_8 (by decide) ?_))
  refine V_cV1i (M' := M_X11_figures) (d' := 2) dX11_partItem_9 (Or.inl ml_X11_147) kb_X11_figures (by first | assumption | exact ⟨by decide, rfl⟩) (by first | decide | omega) (by simp [Value.category]) ⟨by decide, by decide⟩ ?_
  rw [hX.2.1]
  refine mr_figures hT (m := 4) (by decide) hk hk2 (fun hn I1 g1 => ⟨_, rfl, ?_⟩) (fun p l hs I1 g1 g2 g3 => ⟨_, rfl, ?_⟩)
  · refine V_if_eq_t (tgt := 62) dX11_partItem_12 (by decide) (rfl) ?_
    refine V_iconst (v := 0) dX11_partItem_62 (by decide) ?_
    refine V_ireturn dX11_partItem_63 rfl rfl rfl (by decide) (by decide) ?_
    exact Kk.1 (rif_none hn) I1 (Fr1.fig g1)
  · have hX := hX.fig g1
    have hle := (fgs_le t len 4 k p l hs).1
    have l0 := g3 0 (by decide)
    have l1 := g3 1 (by decide)
    have l2 := g3 2 (by decide)
    have l3 := g3 3 (by decide)
    have b0 := hle 0
    have b1 := hle 1
    have b2 := hle 2
    have b3 := hle 3
    have tk : takeK K 112 (fun j => l.getD j 0) 4 = if K 0 1 < 8 ∧ l.getD 0 0 ≤ 99 ∧ l.getD 1 0 ≤ 15 ∧ 1 ≤ l.getD 2 0 ∧ l.getD 3 0 ≤ 1 then some (aPa K (l.getD 0 0) (l.getD 1 0) (l.getD 2 0) (l.getD 3 0)) else none := by simp [takeK]
    have hr := rif_some (u := 112) (K := K) hs
    rw [tk] at hr
    generalize l.getD 0 0 = a at *
    generalize l.getD 1 0 = b at *
    generalize l.getD 2 0 = c at *
    generalize l.getD 3 0 = e at *
    by_cases c1 : K 0 1 < 8
    · have n1 : ¬ nI (K 0 1) = 8 := fun z => by have := (nI_eq (by omega) (by omega)).mp (z.trans (show (8 : Int32) = nI 8 from rfl)); omega
      by_cases c2 : a ≤ 99
      · have n2 : ¬ (99 : Int32) < I1 92 0 := by rw [l0, show (99 : Int32) = nI 99 from rfl, lit_lt (by omega) (by omega)]; omega
        by_cases c3 : b ≤ 15
        · have n3 : ¬ (15 : Int32) < I1 92 1 := by rw [l1, show (15 : Int32) = nI 15 from rfl, lit_lt (by omega) (by omega)]; omega
          by_cases c4 : 1 ≤ c
          · have n4 : ¬ I1 92 2 = 0 := by rw [l2, ← nI_0]; exact fun z => by have := (nI_eq (by omega) (by omega)).mp z; omega
            by_cases c5 : e ≤ 1
            · have n5 : I1 92 3 ≤ (1 : Int32) := by rw [l3, show (1 : Int32) = nI 1 from rfl, lit_le (by omega) (by omega)]; omega
              rw [if_pos ⟨c1, c2, c3, c4, c5⟩] at hr
              refine V_if_eq_f (tgt := 62) dX11_partItem_12 (by decide) (by decide) ?_
              refine V_iload_n dX11_partItem_15 rfl rfl (V_bipush (v := 8) dX11_partItem_16 (by decide) ?_)
              refine V_icmp_eq_f (tgt := 62) dX11_partItem_18 (by decide) (n1) ?_
              refine V_aload_n dX11_partItem_21 rfl rfl ?_
              refine V_getR dX11_partItem_22 fl_X11_73 (by first | assumption | exact ⟨by decide, rfl⟩) (by first | assumption | rfl) ?_
              refine V_iconst (v := 0) dX11_partItem_25 (by decide) ?_
              refine V_ial dX11_partItem_26 (by first | assumption | exact ⟨by decide, rfl⟩) (show ix _ 0 _ from ⟨rfl, by decide⟩) ?_
              refine V_bipush (v := 99) dX11_partItem_27 (by decide) ?_
              refine V_icmp_gt_f (tgt := 62) dX11_partItem_29 (by decide) (n2) ?_
              refine V_aload_n dX11_partItem_32 rfl rfl ?_
              refine V_getR dX11_partItem_33 fl_X11_73 (by first | assumption | exact ⟨by decide, rfl⟩) (by first | assumption | rfl) ?_
              refine V_iconst (v := 1) dX11_partItem_36 (by decide) ?_
              refine V_ial dX11_partItem_37 (by first | assumption | exact ⟨by decide, rfl⟩) (show ix _ 1 _ from ⟨rfl, by decide⟩) ?_
              refine V_bipush (v := 15) dX11_partItem_38 (by decide) ?_
              refine V_icmp_gt_f (tgt := 62) dX11_partItem_40 (by decide) (n3) ?_
              refine V_aload_n dX11_partItem_43 rfl rfl ?_
              refine V_getR dX11_partItem_44 fl_X11_73 (by first | assumption | exact ⟨by decide, rfl⟩) (by first | assumption | rfl) ?_
              refine V_iconst (v := 2) dX11_partItem_47 (by decide) ?_
              refine V_ial dX11_partItem_48 (by first | assumption | exact ⟨by decide, rfl⟩) (show ix _ 2 _ from ⟨rfl, by decide⟩) ?_
              refine V_if_eq_f (tgt := 62) dX11_partItem_49 (by decide) (n4) ?_
              refine V_aload_n dX11_partItem_52 rfl rfl ?_
              refine V_getR dX11_partItem_53 fl_X11_73 (by first | assumption | exact ⟨by decide, rfl⟩) (by first | assumption | rfl) ?_
              refine V_iconst (v := 3) dX11_partItem_56 (by decide) ?_
              refine V_ial dX11_partItem_57 (by first | assumption | exact ⟨by decide, rfl⟩) (show ix _ 3 _ from ⟨rfl, by decide⟩) ?_
              refine V_iconst (v := 1) dX11_partItem_58 (by decide) ?_
              refine V_icmp_le_t (tgt := 64) dX11_partItem_59 (by decide) (n5) ?_
              refine V_aload_n dX11_partItem_64 rfl rfl ?_
              refine V_getR dX11_partItem_65 fl_X11_25 (by first | assumption | exact ⟨by decide, rfl⟩) (by first | assumption | rfl) ?_
              refine V_bipush (v := 8) dX11_partItem_68 (by decide) (V_iload_n dX11_partItem_70 rfl rfl (V_iadd dX11_partItem_71 (V_aload_n dX11_partItem_72 rfl rfl ?_)))
              refine V_getR dX11_partItem_73 fl_X11_73 (by first | assumption | exact ⟨by decide, rfl⟩) (by first | assumption | rfl) ?_
              refine V_iconst (v := 0) dX11_partItem_76 (by decide) ?_
              refine V_ial dX11_partItem_77 (by first | assumption | exact ⟨by decide, rfl⟩) (show ix _ 0 _ from ⟨rfl, by decide⟩) ?_
              refine V_ias dX11_partItem_78 (by first | assumption | exact ⟨by decide, rfl⟩) (show ix _ (8 + K 0 1) 16 from ixa (a := 8) (by omega)) ?_
              refine V_aload_n dX11_partItem_79 rfl rfl ?_
              refine V_getR dX11_partItem_80 fl_X11_28 (by first | assumption | exact ⟨by decide, rfl⟩) (by first | assumption | rfl) ?_
              refine V_bipush (v := 8) dX11_partItem_83 (by decide) (V_iload_n dX11_partItem_85 rfl rfl (V_iadd dX11_partItem_86 (V_aload_n dX11_partItem_87 rfl rfl ?_)))
              refine V_getR dX11_partItem_88 fl_X11_73 (by first | assumption | exact ⟨by decide, rfl⟩) (by first | assumption | rfl) ?_
              refine V_iconst (v := 1) dX11_partItem_91 (by decide) ?_
              refine V_ial dX11_partItem_92 (by first | assumption | exact ⟨by decide, rfl⟩) (show ix _ 1 _ from ⟨rfl, by decide⟩) ?_
              refine V_ias dX11_partItem_93 (by first | assumption | exact ⟨by decide, rfl⟩) (show ix _ (8 + K 0 1) 16 from ixa (a := 8) (by omega)) ?_
              refine V_aload_n dX11_partItem_94 rfl rfl ?_
              refine V_getR dX11_partItem_95 fl_X11_31 (by first | assumption | exact ⟨by decide, rfl⟩) (by first | assumption | rfl) ?_
              refine V_bipush (v := 8) dX11_partItem_98 (by decide) (V_iload_n dX11_partItem_100 rfl rfl (V_iadd dX11_partItem_101 (V_aload_n dX11_partItem_102 rfl rfl ?_)))
              refine V_getR dX11_partItem_103 fl_X11_73 (by first | assumption | exact ⟨by decide, rfl⟩) (by first | assumption | rfl) ?_
              refine V_iconst (v := 2) dX11_partItem_106 (by decide) ?_
              refine V_ial dX11_partItem_107 (by first | assumption | exact ⟨by decide, rfl⟩) (show ix _ 2 _ from ⟨rfl, by decide⟩) ?_
              refine V_ias dX11_partItem_108 (by first | assumption | exact ⟨by decide, rfl⟩) (show ix _ (8 + K 0 1) 16 from ixa (a := 8) (by omega)) ?_
              refine V_aload_n dX11_partItem_109 rfl rfl ?_
              refine V_getR dX11_partItem_110 fl_X11_34 (by first | assumption | exact ⟨by decide, rfl⟩) (by first | assumption | rfl) ?_
              refine V_bipush (v := 8) dX11_partItem_113 (by decide) (V_iload_n dX11_partItem_115 rfl rfl (V_iadd dX11_partItem_116 (V_aload_n dX11_partItem_117 rfl rfl ?_)))
              refine V_getR dX11_partItem_118 fl_X11_73 (by first | assumption | exact ⟨by decide, rfl⟩) (by first | assumption | rfl) ?_
              refine V_iconst (v := 3) dX11_partItem_121 (by decide) ?_
              refine V_ial dX11_partItem_122 (by first | assumption | exact ⟨by decide, rfl⟩) (show ix _ 3 _ from ⟨rfl, by decide⟩) ?_
              refine V_ias dX11_partItem_123 (by first | assumption | exact ⟨by decide, rfl⟩) (show ix _ (8 + K 0 1) 16 from ixa (a := 8) (by omega)) ?_
              refine V_aload_n dX11_partItem_124 rfl rfl ?_
              refine V_getR dX11_partItem_125 fl_X11_22 (by first | assumption | exact ⟨by decide, rfl⟩) (by first | assumption | rfl) ?_
              refine V_iconst (v := 1) dX11_partItem_128 (by decide) (V_dup2 dX11_partItem_129 rfl rfl ?_)
              refine V_ial dX11_partItem_130 (by first | assumption | exact ⟨by decide, rfl⟩) (show ix _ 1 _ from ⟨rfl, by decide⟩) ?_
              refine V_iconst (v := 1) dX11_partItem_131 (by decide) (V_iadd dX11_partItem_132 ?_)
              refine V_ias dX11_partItem_133 (by first | assumption | exact ⟨by decide, rfl⟩) (show ix _ 1 _ from ⟨rfl, by decide⟩) ?_
              refine V_iconst (v := 1) dX11_partItem_134 (by decide) ?_
              refine V_ireturn dX11_partItem_135 rfl rfl rfl (by decide) (by decide) ?_
              refine Kk.2 p _ hr _ (fun x y a b c => by have := ofs_f x; rw [u2n (by omega), u2n (by omega), u2n (by omega), u2n (by omega), u2n (by omega)]; exact g1 x y a b) (by rw [u2n (by omega), u2n (by omega), u2n (by omega), u2n (by omega), u2n (by omega)]; exact g2) ?_
              obtain ⟨a1, a2, a3, a4, b1, b2, b3, b4, b5, d1, d2, e, f1, f2, f3, f4, g, k1, k2, l⟩ := hX
              refine ⟨?_, ?_, ?_, ?_, ?_, ?_, ?_, ?_, ?_, fun p hp => ?_, fun p hp => ?_, fun p hp => ?_, fun p hp => ?_, fun p hp => ?_, fun p hp => ?_, fun p hp => ?_, fun p hp => ?_, fun p hp => ?_, fun p hp => ?_, fun p hp => ?_⟩
              · simp [up2, aPa, a1, nI_1]
              · simp [up2, aPa, a2, nI_1]
              · simp [up2, aPa, a3, nI_1]
              · simp [up2, aPa, a4, nI_1]
              · simp [up2, aPa, b1, nI_1]
              · simp [up2, aPa, b2, nI_1]
              · simp [up2, aPa, b3, nI_1]
              · simp [up2, aPa, b4, nI_1]
              · simp [up2, aPa, b5, nI_1]
              · have hp : p < K 0 0 := by simpa [up2, aPa] using hp
                simp [up2, aPa, d1 p hp]
              · have hp : p < K 0 0 := by simpa [up2, aPa] using hp
                simp [up2, aPa, d2 p hp]
              · simp [up2, aPa, e p hp]
              · have hp' : p < K 0 1 + 1 := by simpa [up2, aPa] using hp
                by_cases h : p = K 0 1
                · rw [h]; simp [up2, aPa, l0]
                · have z := f1 p (by omega); simp [up2, aPa, h, z]
              · have hp' : p < K 0 1 + 1 := by simpa [up2, aPa] using hp
                by_cases h : p = K 0 1
                · rw [h]; simp [up2, aPa, l1]
                · have z := f2 p (by omega); simp [up2, aPa, h, z]
              · have hp' : p < K 0 1 + 1 := by simpa [up2, aPa] using hp
                by_cases h : p = K 0 1
                · rw [h]; simp [up2, aPa, l2]
                · have z := f3 p (by omega); simp [up2, aPa, h, z]
              · have hp' : p < K 0 1 + 1 := by simpa [up2, aPa] using hp
                by_cases h : p = K 0 1
                · rw [h]; simp [up2, aPa, l3]
                · have z := f4 p (by omega); simp [up2, aPa, h, z]
              · simp [up2, aPa, g p hp]
              · have hp : p < K 0 2 := by simpa [up2, aPa] using hp
                simp [up2, aPa, k1 p hp]
              · have hp : p < K 0 2 := by simpa [up2, aPa] using hp
                simp [up2, aPa, k2 p hp]
              · simp [up2, aPa, l p hp]
            · rw [if_neg (fun z => c5 z.2.2.2.2)] at hr
              have n5 : ¬ I1 92 3 ≤ (1 : Int32) := by rw [l3, show (1 : Int32) = nI 1 from rfl, lit_le (by omega) (by omega)]; omega
              refine V_if_eq_f (tgt := 62) dX11_partItem_12 (by decide) (by decide) ?_
              refine V_iload_n dX11_partItem_15 rfl rfl (V_bipush (v := 8) dX11_partItem_16 (by decide) ?_)
              refine V_icmp_eq_f (tgt := 62) dX11_partItem_18 (by decide) (n1) ?_
              refine V_aload_n dX11_partItem_21 rfl rfl ?_
              refine V_getR dX11_partItem_22 fl_X11_73 (by first | assumption | exact ⟨by decide, rfl⟩) (by first | assumption | rfl) ?_
              refine V_iconst (v := 0) dX11_partItem_25 (by decide) ?_
              refine V_ial dX11_partItem_26 (by first | assumption | exact ⟨by decide, rfl⟩) (show ix _ 0 _ from ⟨rfl, by decide⟩) ?_
              refine V_bipush (v := 99) dX11_partItem_27 (by decide) ?_
              refine V_icmp_gt_f (tgt := 62) dX11_partItem_29 (by decide) (n2) ?_
              refine V_aload_n dX11_partItem_32 rfl rfl ?_
              refine V_getR dX11_partItem_33 fl_X11_73 (by first | assumption | exact ⟨by decide, rfl⟩) (by first | assumption | rfl) ?_
              refine V_iconst (v := 1) dX11_partItem_36 (by decide) ?_
              refine V_ial dX11_partItem_37 (by first | assumption | exact ⟨by decide, rfl⟩) (show ix _ 1 _ from ⟨rfl, by decide⟩) ?_
              refine V_bipush (v := 15) dX11_partItem_38 (by decide) ?_
              refine V_icmp_gt_f (tgt := 62) dX11_partItem_40 (by decide) (n3) ?_
              refine V_aload_n dX11_partItem_43 rfl rfl ?_
              refine V_getR dX11_partItem_44 fl_X11_73 (by first | assumption | exact ⟨by decide, rfl⟩) (by first | assumption | rfl) ?_
              refine V_iconst (v := 2) dX11_partItem_47 (by decide) ?_
              refine V_ial dX11_partItem_48 (by first | assumption | exact ⟨by decide, rfl⟩) (show ix _ 2 _ from ⟨rfl, by decide⟩) ?_
              refine V_if_eq_f (tgt := 62) dX11_partItem_49 (by decide) (n4) ?_
              refine V_aload_n dX11_partItem_52 rfl rfl ?_
              refine V_getR dX11_partItem_53 fl_X11_73 (by first | assumption | exact ⟨by decide, rfl⟩) (by first | assumption | rfl) ?_
              refine V_iconst (v := 3) dX11_partItem_56 (by decide) ?_
              refine V_ial dX11_partItem_57 (by first | assumption | exact ⟨by decide, rfl⟩) (show ix _ 3 _ from ⟨rfl, by decide⟩) ?_
              refine V_iconst (v := 1) dX11_partItem_58 (by decide) ?_
              refine V_icmp_le_f (tgt := 64) dX11_partItem_59 (by decide) (n5) ?_
              refine V_iconst (v := 0) dX11_partItem_62 (by decide) ?_
              refine V_ireturn dX11_partItem_63 rfl rfl rfl (by decide) (by decide) ?_
              exact Kk.1 hr I1 (Fr1.fig g1)
          · rw [if_neg (fun z => c4 z.2.2.2.1)] at hr
            refine V_if_eq_f (tgt := 62) dX11_partItem_12 (by decide) (by decide) ?_
            refine V_iload_n dX11_partItem_15 rfl rfl (V_bipush (v := 8) dX11_partItem_16 (by decide) ?_)
            refine V_icmp_eq_f (tgt := 62) dX11_partItem_18 (by decide) (n1) ?_
            refine V_aload_n dX11_partItem_21 rfl rfl ?_
            refine V_getR dX11_partItem_22 fl_X11_73 (by first | assumption | exact ⟨by decide, rfl⟩) (by first | assumption | rfl) ?_
            refine V_iconst (v := 0) dX11_partItem_25 (by decide) ?_
            refine V_ial dX11_partItem_26 (by first | assumption | exact ⟨by decide, rfl⟩) (show ix _ 0 _ from ⟨rfl, by decide⟩) ?_
            refine V_bipush (v := 99) dX11_partItem_27 (by decide) ?_
            refine V_icmp_gt_f (tgt := 62) dX11_partItem_29 (by decide) (n2) ?_
            refine V_aload_n dX11_partItem_32 rfl rfl ?_
            refine V_getR dX11_partItem_33 fl_X11_73 (by first | assumption | exact ⟨by decide, rfl⟩) (by first | assumption | rfl) ?_
            refine V_iconst (v := 1) dX11_partItem_36 (by decide) ?_
            refine V_ial dX11_partItem_37 (by first | assumption | exact ⟨by decide, rfl⟩) (show ix _ 1 _ from ⟨rfl, by decide⟩) ?_
            refine V_bipush (v := 15) dX11_partItem_38 (by decide) ?_
            refine V_icmp_gt_f (tgt := 62) dX11_partItem_40 (by decide) (n3) ?_
            refine V_aload_n dX11_partItem_43 rfl rfl ?_
            refine V_getR dX11_partItem_44 fl_X11_73 (by first | assumption | exact ⟨by decide, rfl⟩) (by first | assumption | rfl) ?_
            refine V_iconst (v := 2) dX11_partItem_47 (by decide) ?_
            refine V_ial dX11_partItem_48 (by first | assumption | exact ⟨by decide, rfl⟩) (show ix _ 2 _ from ⟨rfl, by decide⟩) ?_
            refine V_if_eq_t (tgt := 62) dX11_partItem_49 (by decide) (by rw [l2, show c = 0 by omega]; rfl) ?_
            refine V_iconst (v := 0) dX11_partItem_62 (by decide) ?_
            refine V_ireturn dX11_partItem_63 rfl rfl rfl (by decide) (by decide) ?_
            exact Kk.1 hr I1 (Fr1.fig g1)
        · rw [if_neg (fun z => c3 z.2.2.1)] at hr
          have n3 : (15 : Int32) < I1 92 1 := by rw [l1, show (15 : Int32) = nI 15 from rfl, lit_lt (by omega) (by omega)]; omega
          refine V_if_eq_f (tgt := 62) dX11_partItem_12 (by decide) (by decide) ?_
          refine V_iload_n dX11_partItem_15 rfl rfl (V_bipush (v := 8) dX11_partItem_16 (by decide) ?_)
          refine V_icmp_eq_f (tgt := 62) dX11_partItem_18 (by decide) (n1) ?_
          refine V_aload_n dX11_partItem_21 rfl rfl ?_
          refine V_getR dX11_partItem_22 fl_X11_73 (by first | assumption | exact ⟨by decide, rfl⟩) (by first | assumption | rfl) ?_
          refine V_iconst (v := 0) dX11_partItem_25 (by decide) ?_
          refine V_ial dX11_partItem_26 (by first | assumption | exact ⟨by decide, rfl⟩) (show ix _ 0 _ from ⟨rfl, by decide⟩) ?_
          refine V_bipush (v := 99) dX11_partItem_27 (by decide) ?_
          refine V_icmp_gt_f (tgt := 62) dX11_partItem_29 (by decide) (n2) ?_
          refine V_aload_n dX11_partItem_32 rfl rfl ?_
          refine V_getR dX11_partItem_33 fl_X11_73 (by first | assumption | exact ⟨by decide, rfl⟩) (by first | assumption | rfl) ?_
          refine V_iconst (v := 1) dX11_partItem_36 (by decide) ?_
          refine V_ial dX11_partItem_37 (by first | assumption | exact ⟨by decide, rfl⟩) (show ix _ 1 _ from ⟨rfl, by decide⟩) ?_
          refine V_bipush (v := 15) dX11_partItem_38 (by decide) ?_
          refine V_icmp_gt_t (tgt := 62) dX11_partItem_40 (by decide) (n3) ?_
          refine V_iconst (v := 0) dX11_partItem_62 (by decide) ?_
          refine V_ireturn dX11_partItem_63 rfl rfl rfl (by decide) (by decide) ?_
          exact Kk.1 hr I1 (Fr1.fig g1)
      · rw [if_neg (fun z => c2 z.2.1)] at hr
        have n2 : (99 : Int32) < I1 92 0 := by rw [l0, show (99 : Int32) = nI 99 from rfl, lit_lt (by omega) (by omega)]; omega
        refine V_if_eq_f (tgt := 62) dX11_partItem_12 (by decide) (by decide) ?_
        refine V_iload_n dX11_partItem_15 rfl rfl (V_bipush (v := 8) dX11_partItem_16 (by decide) ?_)
        refine V_icmp_eq_f (tgt := 62) dX11_partItem_18 (by decide) (n1) ?_
        refine V_aload_n dX11_partItem_21 rfl rfl ?_
        refine V_getR dX11_partItem_22 fl_X11_73 (by first | assumption | exact ⟨by decide, rfl⟩) (by first | assumption | rfl) ?_
        refine V_iconst (v := 0) dX11_partItem_25 (by decide) ?_
        refine V_ial dX11_partItem_26 (by first | assumption | exact ⟨by decide, rfl⟩) (show ix _ 0 _ from ⟨rfl, by decide⟩) ?_
        refine V_bipush (v := 99) dX11_partItem_27 (by decide) ?_
        refine V_icmp_gt_t (tgt := 62) dX11_partItem_29 (by decide) (n2) ?_
        refine V_iconst (v := 0) dX11_partItem_62 (by decide) ?_
        refine V_ireturn dX11_partItem_63 rfl rfl rfl (by decide) (by decide) ?_
        exact Kk.1 hr I1 (Fr1.fig g1)
    · rw [if_neg (fun z => c1 z.1)] at hr
      refine V_if_eq_f (tgt := 62) dX11_partItem_12 (by decide) (by decide) ?_
      refine V_iload_n dX11_partItem_15 rfl rfl (V_bipush (v := 8) dX11_partItem_16 (by decide) ?_)
      refine V_icmp_eq_t (tgt := 62) dX11_partItem_18 (by decide) (by rw [show K 0 1 = 8 by omega]; rfl) ?_
      refine V_iconst (v := 0) dX11_partItem_62 (by decide) ?_
      refine V_ireturn dX11_partItem_63 rfl rfl rfl (by decide) (by decide) ?_
      exact Kk.1 hr I1 (Fr1.fig g1)
theorem mr_sceneItem (hT : MTX I t len) (hB : KB K) (hX : M1 I K) (hk : I 70 23 = nI k) (hk2 : k ≤ 500) (Kk : IT t len 2 99 K k Post I J (RR co dr cc a1 a2)) : Cal E 3 M_X11_sceneItem [.ref 70] NC I J (RR co dr cc a1 a2) Post := by
  have hS := hB.1.2.2.1
  have hQ := hB.1.2.1
  have h2 : 2 ^ K 0 1 < 2 ^ 31 := Nat.pow_lt_pow_right (by decide) (by omega)
  refine Cal_of kn_X11_sceneItem rfl (Nat.le_of_ble_eq_true rfl) ?_
  refine V_aload_n dX11_sceneItem_0 rfl rfl ?_
  refine V_getR dX11_sceneItem_1 fl_X11_40 (by first | assumption | exact ⟨by decide, rfl⟩) (by first | assumption | rfl) ?_
  refine V_iconst (v := 1) dX11_sceneItem_4 (by decide) ?_
  refine V_ial dX11_sceneItem_5 (by first | assumption | exact ⟨by decide, rfl⟩) (show ix _ 1 _ from ⟨rfl, by decide⟩) ?_
  refine V_istore_1 dX11_sceneItem_6 (by decide) rfl (V_aload_n dX11_sceneItem_7 rfl rfl (V_iconst (v := 2) dX11_sceneItem_8 (by decide) ?_))
  refine V_cV1i (M' := M_X11_figures) (d' := 2) dX11_sceneItem_9 (Or.inl ml_X11_147) kb_X11_figures (by first | assumption | exact ⟨by decide, rfl⟩) (by first | decide | omega) (by simp [Value.category]) ⟨by decide, by decide⟩ ?_
  rw [hX.2.2.1]
  refine mr_figures hT (m := 2) (by decide) hk hk2 (fun hn I1 g1 => ⟨_, rfl, ?_⟩) (fun p l hs I1 g1 g2 g3 => ⟨_, rfl, ?_⟩)
  · refine V_if_eq_t (tgt := 63) dX11_sceneItem_12 (by decide) (rfl) ?_
    refine V_iconst (v := 0) dX11_sceneItem_63 (by decide) ?_
    refine V_ireturn dX11_sceneItem_64 rfl rfl rfl (by decide) (by decide) ?_
    exact Kk.1 (rif_none hn) I1 (Fr1.fig g1)
  · have hX := hX.fig g1
    have hle := (fgs_le t len 2 k p l hs).1
    have l0 := g3 0 (by decide)
    have l1 := g3 1 (by decide)
    have b0 := hle 0
    have b1 := hle 1
    have tk : takeK K 99 (fun j => l.getD j 0) 2 = if K 0 2 < 10 ∧ 1 ≤ l.getD 0 0 ∧ l.getD 0 0 < 2 ^ K 0 1 ∧ 1 ≤ l.getD 1 0 ∧ l.getD 1 0 ≤ 99 then some (aSc K (l.getD 0 0) (l.getD 1 0)) else none := by simp [takeK]
    have hr := rif_some (u := 99) (K := K) hs
    rw [tk] at hr
    generalize l.getD 0 0 = a at *
    generalize l.getD 1 0 = b at *
    by_cases c1 : K 0 2 < 10
    · have n1 : ¬ nI (K 0 2) = 10 := fun z => by have := (nI_eq (by omega) (by omega)).mp (z.trans (show (10 : Int32) = nI 10 from rfl)); omega
      refine V_if_eq_f (tgt := 63) dX11_sceneItem_12 (by decide) (by decide) ?_
      refine V_iload_n dX11_sceneItem_15 rfl rfl (V_bipush (v := 10) dX11_sceneItem_16 (by decide) ?_)
      refine V_icmp_eq_f (tgt := 63) dX11_sceneItem_18 (by decide) (n1) ?_
      refine V_aload_n dX11_sceneItem_21 rfl rfl ?_
      refine V_getR dX11_sceneItem_22 fl_X11_73 (by first | assumption | exact ⟨by decide, rfl⟩) (by first | assumption | rfl) ?_
      refine V_iconst (v := 0) dX11_sceneItem_25 (by decide) ?_
      refine V_ial dX11_sceneItem_26 (by first | assumption | exact ⟨by decide, rfl⟩) (show ix _ 0 _ from ⟨rfl, by decide⟩) ?_
      refine V_i2l dX11_sceneItem_27 (V_lconst (v := 1) dX11_sceneItem_28 rfl (V_iconst (v := 1) dX11_sceneItem_29 (by decide) (V_aload_n dX11_sceneItem_30 rfl rfl ?_)))
      refine V_getR dX11_sceneItem_31 fl_X11_22 (by first | assumption | exact ⟨by decide, rfl⟩) (by first | assumption | rfl) ?_
      refine V_iconst (v := 1) dX11_sceneItem_34 (by decide) ?_
      refine V_ial dX11_sceneItem_35 (by first | assumption | exact ⟨by decide, rfl⟩) (show ix _ 1 _ from ⟨rfl, by decide⟩) ?_
      refine V_ishl dX11_sceneItem_36 (V_iconst (v := 1) dX11_sceneItem_37 (by decide) (V_isub dX11_sceneItem_38 (V_i2l dX11_sceneItem_39 ?_)))
      refine V_cS3i (M' := M_X11_in) (d' := 1) dX11_sceneItem_40 (Or.inl ml_X11_124) kb_X11_in (by first | decide | omega) (by simp [Value.category]) ⟨by decide, by decide⟩ ?_
      refine mr_in ⟨_, rfl, ?_⟩
      have ea : decide ((1 : Int64).toInt ≤ (I1 92 0).toInt64.toInt ∧ (I1 92 0).toInt64.toInt ≤ ((1 : Int32) <<< (I1 75 1 &&& 31) - 1).toInt64.toInt) = decide (1 ≤ a ∧ a < 2 ^ K 0 1) := by
        rw [l0, hX.2.1, shl1 (by omega), i2l_toInt, i2l_toInt, sub1_toInt h2, nI_toInt (by omega), show (1 : Int64).toInt = 1 from by decide]
        exact decide_eq_decide.mpr (by omega)
      rw [ea]
      by_cases c2 : 1 ≤ a ∧ a < 2 ^ K 0 1
      · rw [decide_eq_true c2]
        refine V_if_eq_f (tgt := 63) dX11_sceneItem_43 (by decide) (by decide) ?_
        refine V_aload_n dX11_sceneItem_46 rfl rfl ?_
        refine V_getR dX11_sceneItem_47 fl_X11_73 (by first | assumption | exact ⟨by decide, rfl⟩) (by first | assumption | rfl) ?_
        refine V_iconst (v := 1) dX11_sceneItem_50 (by decide) ?_
        refine V_ial dX11_sceneItem_51 (by first | assumption | exact ⟨by decide, rfl⟩) (show ix _ 1 _ from ⟨rfl, by decide⟩) ?_
        refine V_i2l dX11_sceneItem_52 (V_lconst (v := 1) dX11_sceneItem_53 rfl (V_ldc2_w dX11_sceneItem_54 ct_X11_151 ?_))
        refine V_cS3i (M' := M_X11_in) (d' := 1) dX11_sceneItem_57 (Or.inl ml_X11_124) kb_X11_in (by first | decide | omega) (by simp [Value.category]) ⟨by decide, by decide⟩ ?_
        refine mr_in ⟨_, rfl, ?_⟩
        have eb : decide ((1 : Int64).toInt ≤ (I1 92 1).toInt64.toInt ∧ (I1 92 1).toInt64.toInt ≤ (99 : Int64).toInt) = decide (1 ≤ b ∧ b ≤ 99) := by
          rw [in_C (u := 1) (v := 99) (by decide) (by decide), l1, nI_toInt (by omega)]
          exact decide_eq_decide.mpr (by omega)
        rw [eb]
        by_cases c3 : 1 ≤ b ∧ b ≤ 99
        · rw [decide_eq_true c3]
          rw [if_pos ⟨c1, c2.1, c2.2, c3.1, c3.2⟩] at hr
          refine V_if_ne_t (tgt := 65) dX11_sceneItem_60 (by decide) (by decide) ?_
          refine V_aload_n dX11_sceneItem_65 rfl rfl ?_
          refine V_getR dX11_sceneItem_66 fl_X11_43 (by first | assumption | exact ⟨by decide, rfl⟩) (by first | assumption | rfl) ?_
          refine V_bipush (v := 10) dX11_sceneItem_69 (by decide) (V_iload_n dX11_sceneItem_71 rfl rfl (V_iadd dX11_sceneItem_72 (V_aload_n dX11_sceneItem_73 rfl rfl ?_)))
          refine V_getR dX11_sceneItem_74 fl_X11_73 (by first | assumption | exact ⟨by decide, rfl⟩) (by first | assumption | rfl) ?_
          refine V_iconst (v := 0) dX11_sceneItem_77 (by decide) ?_
          refine V_ial dX11_sceneItem_78 (by first | assumption | exact ⟨by decide, rfl⟩) (show ix _ 0 _ from ⟨rfl, by decide⟩) ?_
          refine V_ias dX11_sceneItem_79 (by first | assumption | exact ⟨by decide, rfl⟩) (show ix _ (10 + K 0 2) 20 from ixa (a := 10) (by omega)) ?_
          refine V_aload_n dX11_sceneItem_80 rfl rfl ?_
          refine V_getR dX11_sceneItem_81 fl_X11_46 (by first | assumption | exact ⟨by decide, rfl⟩) (by first | assumption | rfl) ?_
          refine V_bipush (v := 10) dX11_sceneItem_84 (by decide) (V_iload_n dX11_sceneItem_86 rfl rfl (V_iadd dX11_sceneItem_87 (V_aload_n dX11_sceneItem_88 rfl rfl ?_)))
          refine V_getR dX11_sceneItem_89 fl_X11_73 (by first | assumption | exact ⟨by decide, rfl⟩) (by first | assumption | rfl) ?_
          refine V_iconst (v := 1) dX11_sceneItem_92 (by decide) ?_
          refine V_ial dX11_sceneItem_93 (by first | assumption | exact ⟨by decide, rfl⟩) (show ix _ 1 _ from ⟨rfl, by decide⟩) ?_
          refine V_ias dX11_sceneItem_94 (by first | assumption | exact ⟨by decide, rfl⟩) (show ix _ (10 + K 0 2) 20 from ixa (a := 10) (by omega)) ?_
          refine V_aload_n dX11_sceneItem_95 rfl rfl ?_
          refine V_getR dX11_sceneItem_96 fl_X11_40 (by first | assumption | exact ⟨by decide, rfl⟩) (by first | assumption | rfl) ?_
          refine V_iconst (v := 1) dX11_sceneItem_99 (by decide) (V_dup2 dX11_sceneItem_100 rfl rfl ?_)
          refine V_ial dX11_sceneItem_101 (by first | assumption | exact ⟨by decide, rfl⟩) (show ix _ 1 _ from ⟨rfl, by decide⟩) ?_
          refine V_iconst (v := 1) dX11_sceneItem_102 (by decide) (V_iadd dX11_sceneItem_103 ?_)
          refine V_ias dX11_sceneItem_104 (by first | assumption | exact ⟨by decide, rfl⟩) (show ix _ 1 _ from ⟨rfl, by decide⟩) ?_
          refine V_iconst (v := 1) dX11_sceneItem_105 (by decide) ?_
          refine V_ireturn dX11_sceneItem_106 rfl rfl rfl (by decide) (by decide) ?_
          refine Kk.2 p _ hr _ (fun x y a b c => by have := ofs_f x; rw [u2n (by omega), u2n (by omega), u2n (by omega)]; exact g1 x y a b) (by rw [u2n (by omega), u2n (by omega), u2n (by omega)]; exact g2) ?_
          obtain ⟨a1, a2, a3, a4, b1, b2, b3, b4, b5, d1, d2, e, f1, f2, f3, f4, g, k1, k2, l⟩ := hX
          refine ⟨?_, ?_, ?_, ?_, ?_, ?_, ?_, ?_, ?_, fun p hp => ?_, fun p hp => ?_, fun p hp => ?_, fun p hp => ?_, fun p hp => ?_, fun p hp => ?_, fun p hp => ?_, fun p hp => ?_, fun p hp => ?_, fun p hp => ?_, fun p hp => ?_⟩
          · simp [up2, aSc, a1, nI_1]
          · simp [up2, aSc, a2, nI_1]
          · simp [up2, aSc, a3, nI_1]
          · simp [up2, aSc, a4, nI_1]
          · simp [up2, aSc, b1, nI_1]
          · simp [up2, aSc, b2, nI_1]
          · simp [up2, aSc, b3, nI_1]
          · simp [up2, aSc, b4, nI_1]
          · simp [up2, aSc, b5, nI_1]
          · have hp : p < K 0 0 := by simpa [up2, aSc] using hp
            simp [up2, aSc, d1 p hp]
          · have hp : p < K 0 0 := by simpa [up2, aSc] using hp
            simp [up2, aSc, d2 p hp]
          · simp [up2, aSc, e p hp]
          · have hp : p < K 0 1 := by simpa [up2, aSc] using hp
            simp [up2, aSc, f1 p hp]
          · have hp : p < K 0 1 := by simpa [up2, aSc] using hp
            simp [up2, aSc, f2 p hp]
          · have hp : p < K 0 1 := by simpa [up2, aSc] using hp
            simp [up2, aSc, f3 p hp]
          · have hp : p < K 0 1 := by simpa [up2, aSc] using hp
            simp [up2, aSc, f4 p hp]
          · simp [up2, aSc, g p hp]
          · have hp' : p < K 0 2 + 1 := by simpa [up2, aSc] using hp
            by_cases h : p = K 0 2
            · rw [h]; simp [up2, aSc, l0]
            · have z := k1 p (by omega); simp [up2, aSc, h, z]
          · have hp' : p < K 0 2 + 1 := by simpa [up2, aSc] using hp
            by_cases h : p = K 0 2
            · rw [h]; simp [up2, aSc, l1]
            · have z := k2 p (by omega); simp [up2, aSc, h, z]
          · simp [up2, aSc, l p hp]
        · rw [decide_eq_false c3]
          rw [if_neg (fun z => c3 ⟨z.2.2.2.1, z.2.2.2.2⟩)] at hr
          refine V_if_ne_f (tgt := 65) dX11_sceneItem_60 (by decide) (rfl) ?_
          refine V_iconst (v := 0) dX11_sceneItem_63 (by decide) ?_
          refine V_ireturn dX11_sceneItem_64 rfl rfl rfl (by decide) (by decide) ?_
          exact Kk.1 hr I1 (Fr1.fig g1)
      · rw [decide_eq_false c2]
        rw [if_neg (fun z => c2 ⟨z.2.1, z.2.2.1⟩)] at hr
        refine V_if_eq_t (tgt := 63) dX11_sceneItem_43 (by decide) (rfl) ?_
        refine V_iconst (v := 0) dX11_sceneItem_63 (by decide) ?_
        refine V_ireturn dX11_sceneItem_64 rfl rfl rfl (by decide) (by decide) ?_
        exact Kk.1 hr I1 (Fr1.fig g1)
    · rw [if_neg (fun z => c1 z.1)] at hr
      refine V_if_eq_f (tgt := 63) dX11_sceneItem_12 (by decide) (by decide) ?_
      refine V_iload_n dX11_sceneItem_15 rfl rfl (V_bipush (v := 10) dX11_sceneItem_16 (by decide) ?_)
      refine V_icmp_eq_t (tgt := 63) dX11_sceneItem_18 (by decide) (by rw [show K 0 2 = 10 by omega]; rfl) ?_
      refine V_iconst (v := 0) dX11_sceneItem_63 (by decide) ?_
      refine V_ireturn dX11_sceneItem_64 rfl rfl rfl (by decide) (by decide) ?_
      exact Kk.1 hr I1 (Fr1.fig g1)
theorem mr_isPair (hT : MTX I t len) (hB : KB K) (hX : M1 I K) (hk : I 70 23 = nI k) (hk2 : k ≤ 500) (Kn : ∀ I', (∀ x y, x ≠ 92 → (x ≠ 70 ∨ y ≠ 23) → I' x y = I x y) → (fgs t len 2 k = none ∨ ∃ p l, fgs t len 2 k = some (p, l) ∧ ¬ (l.getD 0 0 < K 0 0 ∧ l.getD 1 0 < K 0 1)) → Post (some (.int 0)) NC I' J (RR co dr cc a1 a2)) (Ks : ∀ p l, fgs t len 2 k = some (p, l) → l.getD 0 0 < K 0 0 → l.getD 1 0 < K 0 1 → ∀ I', (∀ x y, x ≠ 92 → (x ≠ 70 ∨ y ≠ 23) → I' x y = I x y) → I' 70 23 = nI p → I' 92 0 = nI (l.getD 0 0) → I' 92 1 = nI (l.getD 1 0) → Post (some (.int 1)) NC I' J (RR co dr cc a1 a2)) : Cal E 3 M_X11_isPair [.ref 70] NC I J (RR co dr cc a1 a2) Post := by
  have hP := hB.1.1
  have hQ := hB.1.2.1
  refine Cal_of kn_X11_isPair rfl (Nat.le_of_ble_eq_true rfl) ?_
  refine V_aload_n dX11_isPair_0 rfl rfl (V_iconst (v := 2) dX11_isPair_1 (by decide) ?_)
  refine V_cV1i (M' := M_X11_figures) (d' := 2) dX11_isPair_2 (Or.inl ml_X11_147) kb_X11_figures (by first | assumption | exact ⟨by decide, rfl⟩) (by first | decide | omega) (by simp [Value.category]) ⟨by decide, by decide⟩ ?_
  refine mr_figures hT (m := 2) (by decide) hk hk2 (fun hn I1 g1 => ⟨_, rfl, ?_⟩) (fun p l hs I1 g1 g2 g3 => ⟨_, rfl, ?_⟩)
  · refine V_if_eq_t (tgt := 42) dX11_isPair_5 (by decide) (rfl) ?_
    refine V_iconst (v := 0) dX11_isPair_42 (by decide) ?_
    refine V_ireturn dX11_isPair_43 rfl rfl rfl (by decide) (by decide) ?_
    exact Kn I1 g1 (Or.inl hn)
  · have hX := hX.fig g1
    have hle := (fgs_le t len 2 k p l hs).1
    have l0 := g3 0 (by decide)
    have l1 := g3 1 (by decide)
    have b0 := hle 0
    have b1 := hle 1
    by_cases c1 : l.getD 0 0 < K 0 0
    · by_cases c2 : l.getD 1 0 < K 0 1
      · refine V_if_eq_f (tgt := 42) dX11_isPair_5 (by decide) (by decide) ?_
        refine V_aload_n dX11_isPair_8 rfl rfl ?_
        refine V_getR dX11_isPair_9 fl_X11_73 (by first | assumption | exact ⟨by decide, rfl⟩) (by first | assumption | rfl) ?_
        refine V_iconst (v := 0) dX11_isPair_12 (by decide) ?_
        refine V_ial dX11_isPair_13 (by first | assumption | exact ⟨by decide, rfl⟩) (show ix _ 0 _ from ⟨rfl, by decide⟩) ?_
        refine V_aload_n dX11_isPair_14 rfl rfl ?_
        refine V_getR dX11_isPair_15 fl_X11_13 (by first | assumption | exact ⟨by decide, rfl⟩) (by first | assumption | rfl) ?_
        refine V_iconst (v := 1) dX11_isPair_18 (by decide) ?_
        refine V_ial dX11_isPair_19 (by first | assumption | exact ⟨by decide, rfl⟩) (show ix _ 1 _ from ⟨rfl, by decide⟩) ?_
        refine V_icmp_ge_f (tgt := 42) dX11_isPair_20 (by decide) (by rw [l0, hX.1]; exact nI_ge c1 (by omega)) ?_
        refine V_aload_n dX11_isPair_23 rfl rfl ?_
        refine V_getR dX11_isPair_24 fl_X11_73 (by first | assumption | exact ⟨by decide, rfl⟩) (by first | assumption | rfl) ?_
        refine V_iconst (v := 1) dX11_isPair_27 (by decide) ?_
        refine V_ial dX11_isPair_28 (by first | assumption | exact ⟨by decide, rfl⟩) (show ix _ 1 _ from ⟨rfl, by decide⟩) ?_
        refine V_aload_n dX11_isPair_29 rfl rfl ?_
        refine V_getR dX11_isPair_30 fl_X11_22 (by first | assumption | exact ⟨by decide, rfl⟩) (by first | assumption | rfl) ?_
        refine V_iconst (v := 1) dX11_isPair_33 (by decide) ?_
        refine V_ial dX11_isPair_34 (by first | assumption | exact ⟨by decide, rfl⟩) (show ix _ 1 _ from ⟨rfl, by decide⟩) ?_
        refine V_icmp_ge_f (tgt := 42) dX11_isPair_35 (by decide) (by rw [l1, hX.2.1]; exact nI_ge c2 (by omega)) ?_
        refine V_iconst (v := 1) dX11_isPair_38 (by decide) (V_goto (tgt := 43) dX11_isPair_39 (by decide) ?_)
        refine V_ireturn dX11_isPair_43 rfl rfl rfl (by decide) (by decide) ?_
        exact Ks p l hs c1 c2 I1 g1 g2 l0 l1
      · refine V_if_eq_f (tgt := 42) dX11_isPair_5 (by decide) (by decide) ?_
        refine V_aload_n dX11_isPair_8 rfl rfl ?_
        refine V_getR dX11_isPair_9 fl_X11_73 (by first | assumption | exact ⟨by decide, rfl⟩) (by first | assumption | rfl) ?_
        refine V_iconst (v := 0) dX11_isPair_12 (by decide) ?_
        refine V_ial dX11_isPair_13 (by first | assumption | exact ⟨by decide, rfl⟩) (show ix _ 0 _ from ⟨rfl, by decide⟩) ?_
        refine V_aload_n dX11_isPair_14 rfl rfl ?_
        refine V_getR dX11_isPair_15 fl_X11_13 (by first | assumption | exact ⟨by decide, rfl⟩) (by first | assumption | rfl) ?_
        refine V_iconst (v := 1) dX11_isPair_18 (by decide) ?_
        refine V_ial dX11_isPair_19 (by first | assumption | exact ⟨by decide, rfl⟩) (show ix _ 1 _ from ⟨rfl, by decide⟩) ?_
        refine V_icmp_ge_f (tgt := 42) dX11_isPair_20 (by decide) (by rw [l0, hX.1]; exact nI_ge c1 (by omega)) ?_
        refine V_aload_n dX11_isPair_23 rfl rfl ?_
        refine V_getR dX11_isPair_24 fl_X11_73 (by first | assumption | exact ⟨by decide, rfl⟩) (by first | assumption | rfl) ?_
        refine V_iconst (v := 1) dX11_isPair_27 (by decide) ?_
        refine V_ial dX11_isPair_28 (by first | assumption | exact ⟨by decide, rfl⟩) (show ix _ 1 _ from ⟨rfl, by decide⟩) ?_
        refine V_aload_n dX11_isPair_29 rfl rfl ?_
        refine V_getR dX11_isPair_30 fl_X11_22 (by first | assumption | exact ⟨by decide, rfl⟩) (by first | assumption | rfl) ?_
        refine V_iconst (v := 1) dX11_isPair_33 (by decide) ?_
        refine V_ial dX11_isPair_34 (by first | assumption | exact ⟨by decide, rfl⟩) (show ix _ 1 _ from ⟨rfl, by decide⟩) ?_
        refine V_icmp_ge_t (tgt := 42) dX11_isPair_35 (by decide) (by rw [l1, hX.2.1]; exact nI_le (by omega) (by omega)) ?_
        refine V_iconst (v := 0) dX11_isPair_42 (by decide) ?_
        refine V_ireturn dX11_isPair_43 rfl rfl rfl (by decide) (by decide) ?_
        exact Kn I1 g1 (Or.inr ⟨p, l, hs, fun z => c2 z.2⟩)
    · refine V_if_eq_f (tgt := 42) dX11_isPair_5 (by decide) (by decide) ?_
      refine V_aload_n dX11_isPair_8 rfl rfl ?_
      refine V_getR dX11_isPair_9 fl_X11_73 (by first | assumption | exact ⟨by decide, rfl⟩) (by first | assumption | rfl) ?_
      refine V_iconst (v := 0) dX11_isPair_12 (by decide) ?_
      refine V_ial dX11_isPair_13 (by first | assumption | exact ⟨by decide, rfl⟩) (show ix _ 0 _ from ⟨rfl, by decide⟩) ?_
      refine V_aload_n dX11_isPair_14 rfl rfl ?_
      refine V_getR dX11_isPair_15 fl_X11_13 (by first | assumption | exact ⟨by decide, rfl⟩) (by first | assumption | rfl) ?_
      refine V_iconst (v := 1) dX11_isPair_18 (by decide) ?_
      refine V_ial dX11_isPair_19 (by first | assumption | exact ⟨by decide, rfl⟩) (show ix _ 1 _ from ⟨rfl, by decide⟩) ?_
      refine V_icmp_ge_t (tgt := 42) dX11_isPair_20 (by decide) (by rw [l0, hX.1]; exact nI_le (by omega) (by omega)) ?_
      refine V_iconst (v := 0) dX11_isPair_42 (by decide) ?_
      refine V_ireturn dX11_isPair_43 rfl rfl rfl (by decide) (by decide) ?_
      exact Kn I1 g1 (Or.inr ⟨p, l, hs, fun z => c1 z.1⟩)
theorem mr_coldItem (hT : MTX I t len) (hB : KB K) (hX : M1 I K) (hk : I 70 23 = nI k) (hk2 : k ≤ 500) (Kk : IT t len 3 120 K k Post I J (RR co dr cc a1 a2)) : Cal E 3 M_X11_coldItem [.ref 70] NC I J (RR co dr cc a1 a2) Post := by
  have hP := hB.1.1
  refine Cal_of kn_X11_coldItem rfl (Nat.le_of_ble_eq_true rfl) ?_
  refine V_aload_n dX11_coldItem_0 rfl rfl (V_iconst (v := 3) dX11_coldItem_1 (by decide) ?_)
  refine V_cV1i (M' := M_X11_figures) (d' := 2) dX11_coldItem_2 (Or.inl ml_X11_147) kb_X11_figures (by first | assumption | exact ⟨by decide, rfl⟩) (by first | decide | omega) (by simp [Value.category]) ⟨by decide, by decide⟩ ?_
  refine mr_figures hT (m := 3) (by decide) hk hk2 (fun hn I1 g1 => ⟨_, rfl, ?_⟩) (fun p l hs I1 g1 g2 g3 => ⟨_, rfl, ?_⟩)
  · refine V_if_eq_t (tgt := 64) dX11_coldItem_5 (by decide) (rfl) ?_
    refine V_iconst (v := 0) dX11_coldItem_64 (by decide) ?_
    refine V_ireturn dX11_coldItem_65 rfl rfl rfl (by decide) (by decide) ?_
    exact Kk.1 (rif_none hn) I1 (Fr1.fig g1)
  · have hX := hX.fig g1
    have hle := (fgs_le t len 3 k p l hs).1
    have l0 := g3 0 (by decide)
    have l1 := g3 1 (by decide)
    have l2 := g3 2 (by decide)
    have b0 := hle 0
    have b1 := hle 1
    have b2 := hle 2
    have tk : takeK K 120 (fun j => l.getD j 0) 3 = if l.getD 0 0 < K 0 0 ∧ l.getD 1 0 < K 0 0 ∧ l.getD 0 0 ≠ l.getD 1 0 ∧ l.getD 2 0 ≤ 100 then some (aCo K (l.getD 0 0) (l.getD 1 0) (l.getD 2 0)) else none := by simp [takeK]
    have hr := rif_some (u := 120) (K := K) hs
    rw [tk] at hr
    generalize l.getD 0 0 = a at *
    generalize l.getD 1 0 = b at *
    generalize l.getD 2 0 = c at *
    by_cases c1 : a < K 0 0
    · have n1 : ¬ I1 72 1 ≤ I1 92 0 := by rw [l0, hX.1]; exact nI_ge c1 (by omega)
      by_cases c2 : b < K 0 0
      · have n2 : ¬ I1 72 1 ≤ I1 92 1 := by rw [l1, hX.1]; exact nI_ge c2 (by omega)
        by_cases c3 : a ≠ b
        · have n3 : ¬ I1 92 0 = I1 92 1 := by rw [l0, l1]; exact fun z => c3 ((nI_eq (by omega) (by omega)).mp z)
          by_cases c4 : c ≤ 100
          · have n4 : I1 92 2 ≤ (100 : Int32) := by rw [l2, show (100 : Int32) = nI 100 from rfl, lit_le (by omega) (by omega)]; omega
            rw [if_pos ⟨c1, c2, c3, c4⟩] at hr
            have ei : ∀ u v : Nat, (100 : Int32) + 10 * nI u + nI v = nI (100 + (10 * u + v)) := fun u v => by rw [show (100 : Int32) = nI 100 from rfl, show (10 : Int32) = nI 10 from rfl, pk_mul, nI_add, nI_add, Nat.add_assoc]
            refine V_if_eq_f (tgt := 64) dX11_coldItem_5 (by decide) (by decide) ?_
            refine V_aload_n dX11_coldItem_8 rfl rfl ?_
            refine V_getR dX11_coldItem_9 fl_X11_73 (by first | assumption | exact ⟨by decide, rfl⟩) (by first | assumption | rfl) ?_
            refine V_iconst (v := 0) dX11_coldItem_12 (by decide) ?_
            refine V_ial dX11_coldItem_13 (by first | assumption | exact ⟨by decide, rfl⟩) (show ix _ 0 _ from ⟨rfl, by decide⟩) ?_
            refine V_aload_n dX11_coldItem_14 rfl rfl ?_
            refine V_getR dX11_coldItem_15 fl_X11_13 (by first | assumption | exact ⟨by decide, rfl⟩) (by first | assumption | rfl) ?_
            refine V_iconst (v := 1) dX11_coldItem_18 (by decide) ?_
            refine V_ial dX11_coldItem_19 (by first | assumption | exact ⟨by decide, rfl⟩) (show ix _ 1 _ from ⟨rfl, by decide⟩) ?_
            refine V_icmp_ge_f (tgt := 64) dX11_coldItem_20 (by decide) (n1) ?_
            refine V_aload_n dX11_coldItem_23 rfl rfl ?_
            refine V_getR dX11_coldItem_24 fl_X11_73 (by first | assumption | exact ⟨by decide, rfl⟩) (by first | assumption | rfl) ?_
            refine V_iconst (v := 1) dX11_coldItem_27 (by decide) ?_
            refine V_ial dX11_coldItem_28 (by first | assumption | exact ⟨by decide, rfl⟩) (show ix _ 1 _ from ⟨rfl, by decide⟩) ?_
            refine V_aload_n dX11_coldItem_29 rfl rfl ?_
            refine V_getR dX11_coldItem_30 fl_X11_13 (by first | assumption | exact ⟨by decide, rfl⟩) (by first | assumption | rfl) ?_
            refine V_iconst (v := 1) dX11_coldItem_33 (by decide) ?_
            refine V_ial dX11_coldItem_34 (by first | assumption | exact ⟨by decide, rfl⟩) (show ix _ 1 _ from ⟨rfl, by decide⟩) ?_
            refine V_icmp_ge_f (tgt := 64) dX11_coldItem_35 (by decide) (n2) ?_
            refine V_aload_n dX11_coldItem_38 rfl rfl ?_
            refine V_getR dX11_coldItem_39 fl_X11_73 (by first | assumption | exact ⟨by decide, rfl⟩) (by first | assumption | rfl) ?_
            refine V_iconst (v := 0) dX11_coldItem_42 (by decide) ?_
            refine V_ial dX11_coldItem_43 (by first | assumption | exact ⟨by decide, rfl⟩) (show ix _ 0 _ from ⟨rfl, by decide⟩) ?_
            refine V_aload_n dX11_coldItem_44 rfl rfl ?_
            refine V_getR dX11_coldItem_45 fl_X11_73 (by first | assumption | exact ⟨by decide, rfl⟩) (by first | assumption | rfl) ?_
            refine V_iconst (v := 1) dX11_coldItem_48 (by decide) ?_
            refine V_ial dX11_coldItem_49 (by first | assumption | exact ⟨by decide, rfl⟩) (show ix _ 1 _ from ⟨rfl, by decide⟩) ?_
            refine V_icmp_eq_f (tgt := 64) dX11_coldItem_50 (by decide) (n3) ?_
            refine V_aload_n dX11_coldItem_53 rfl rfl ?_
            refine V_getR dX11_coldItem_54 fl_X11_73 (by first | assumption | exact ⟨by decide, rfl⟩) (by first | assumption | rfl) ?_
            refine V_iconst (v := 2) dX11_coldItem_57 (by decide) ?_
            refine V_ial dX11_coldItem_58 (by first | assumption | exact ⟨by decide, rfl⟩) (show ix _ 2 _ from ⟨rfl, by decide⟩) ?_
            refine V_bipush (v := 100) dX11_coldItem_59 (by decide) ?_
            refine V_icmp_le_t (tgt := 66) dX11_coldItem_61 (by decide) (n4) ?_
            refine V_aload_n dX11_coldItem_66 rfl rfl ?_
            refine V_getR dX11_coldItem_67 fl_X11_55 (by first | assumption | exact ⟨by decide, rfl⟩) (by first | assumption | rfl) ?_
            refine V_bipush (v := 100) dX11_coldItem_70 (by decide) (V_bipush (v := 10) dX11_coldItem_72 (by decide) (V_aload_n dX11_coldItem_74 rfl rfl ?_))
            refine V_getR dX11_coldItem_75 fl_X11_73 (by first | assumption | exact ⟨by decide, rfl⟩) (by first | assumption | rfl) ?_
            refine V_iconst (v := 0) dX11_coldItem_78 (by decide) ?_
            refine V_ial dX11_coldItem_79 (by first | assumption | exact ⟨by decide, rfl⟩) (show ix _ 0 _ from ⟨rfl, by decide⟩) ?_
            refine V_imul dX11_coldItem_80 (V_iadd dX11_coldItem_81 (V_aload_n dX11_coldItem_82 rfl rfl ?_))
            refine V_getR dX11_coldItem_83 fl_X11_73 (by first | assumption | exact ⟨by decide, rfl⟩) (by first | assumption | rfl) ?_
            refine V_iconst (v := 1) dX11_coldItem_86 (by decide) ?_
            refine V_ial dX11_coldItem_87 (by first | assumption | exact ⟨by decide, rfl⟩) (show ix _ 1 _ from ⟨rfl, by decide⟩) ?_
            refine V_iadd dX11_coldItem_88 (V_aload_n dX11_coldItem_89 rfl rfl ?_)
            refine V_getR dX11_coldItem_90 fl_X11_73 (by first | assumption | exact ⟨by decide, rfl⟩) (by first | assumption | rfl) ?_
            refine V_iconst (v := 2) dX11_coldItem_93 (by decide) ?_
            refine V_ial dX11_coldItem_94 (by first | assumption | exact ⟨by decide, rfl⟩) (show ix _ 2 _ from ⟨rfl, by decide⟩) ?_
            refine V_ias dX11_coldItem_95 (by first | assumption | exact ⟨by decide, rfl⟩) (show ix _ (100 + (10 * a + b)) 200 from ⟨(by rw [l0, l1, ei]), by omega⟩) ?_
            refine V_aload_n dX11_coldItem_96 rfl rfl ?_
            refine V_getR dX11_coldItem_97 fl_X11_55 (by first | assumption | exact ⟨by decide, rfl⟩) (by first | assumption | rfl) ?_
            refine V_bipush (v := 100) dX11_coldItem_100 (by decide) (V_bipush (v := 10) dX11_coldItem_102 (by decide) (V_aload_n dX11_coldItem_104 rfl rfl ?_))
            refine V_getR dX11_coldItem_105 fl_X11_73 (by first | assumption | exact ⟨by decide, rfl⟩) (by first | assumption | rfl) ?_
            refine V_iconst (v := 1) dX11_coldItem_108 (by decide) ?_
            refine V_ial dX11_coldItem_109 (by first | assumption | exact ⟨by decide, rfl⟩) (show ix _ 1 _ from ⟨rfl, by decide⟩) ?_
            refine V_imul dX11_coldItem_110 (V_iadd dX11_coldItem_111 (V_aload_n dX11_coldItem_112 rfl rfl ?_))
            refine V_getR dX11_coldItem_113 fl_X11_73 (by first | assumption | exact ⟨by decide, rfl⟩) (by first | assumption | rfl) ?_
            refine V_iconst (v := 0) dX11_coldItem_116 (by decide) ?_
            refine V_ial dX11_coldItem_117 (by first | assumption | exact ⟨by decide, rfl⟩) (show ix _ 0 _ from ⟨rfl, by decide⟩) ?_
            refine V_iadd dX11_coldItem_118 (V_aload_n dX11_coldItem_119 rfl rfl ?_)
            refine V_getR dX11_coldItem_120 fl_X11_73 (by first | assumption | exact ⟨by decide, rfl⟩) (by first | assumption | rfl) ?_
            refine V_iconst (v := 2) dX11_coldItem_123 (by decide) ?_
            refine V_ial dX11_coldItem_124 (by first | assumption | exact ⟨by decide, rfl⟩) (show ix _ 2 _ from ⟨rfl, by decide⟩) ?_
            refine V_ias dX11_coldItem_125 (by first | assumption | exact ⟨by decide, rfl⟩) (show ix _ (100 + (10 * b + a)) 200 from ⟨(by rw [u2n (by omega), u2n (by omega), l0, l1, ei]), by omega⟩) ?_
            refine V_iconst (v := 1) dX11_coldItem_126 (by decide) ?_
            refine V_ireturn dX11_coldItem_127 rfl rfl rfl (by decide) (by decide) ?_
            refine Kk.2 p _ hr _ (fun x y a b c => by have := ofs_f x; rw [u2n (by omega), u2n (by omega)]; exact g1 x y a b) (by rw [u2n (by omega), u2n (by omega)]; exact g2) ?_
            obtain ⟨a1, a2, a3, a4, b1, b2, b3, b4, b5, d1, d2, e, f1, f2, f3, f4, g, k1, k2, l⟩ := hX
            refine ⟨?_, ?_, ?_, ?_, ?_, ?_, ?_, ?_, ?_, fun p hp => ?_, fun p hp => ?_, fun p hp => ?_, fun p hp => ?_, fun p hp => ?_, fun p hp => ?_, fun p hp => ?_, fun p hp => ?_, fun p hp => ?_, fun p hp => ?_, fun p hp => ?_⟩
            · simp [up2, aCo, a1, nI_1]
            · simp [up2, aCo, a2, nI_1]
            · simp [up2, aCo, a3, nI_1]
            · simp [up2, aCo, a4, nI_1]
            · simp [up2, aCo, b1, nI_1]
            · simp [up2, aCo, b2, nI_1]
            · simp [up2, aCo, b3, nI_1]
            · simp [up2, aCo, b4, nI_1]
            · simp [up2, aCo, b5, nI_1]
            · have hp : p < K 0 0 := by simpa [up2, aCo] using hp
              simp [up2, aCo, d1 p hp]
            · have hp : p < K 0 0 := by simpa [up2, aCo] using hp
              simp [up2, aCo, d2 p hp]
            · simp [up2, aCo, e p hp]
            · have hp : p < K 0 1 := by simpa [up2, aCo] using hp
              simp [up2, aCo, f1 p hp]
            · have hp : p < K 0 1 := by simpa [up2, aCo] using hp
              simp [up2, aCo, f2 p hp]
            · have hp : p < K 0 1 := by simpa [up2, aCo] using hp
              simp [up2, aCo, f3 p hp]
            · have hp : p < K 0 1 := by simpa [up2, aCo] using hp
              simp [up2, aCo, f4 p hp]
            · simp [up2, aCo, g p hp]
            · have hp : p < K 0 2 := by simpa [up2, aCo] using hp
              simp [up2, aCo, k1 p hp]
            · have hp : p < K 0 2 := by simpa [up2, aCo] using hp
              simp [up2, aCo, k2 p hp]
            · have z := l p hp
              by_cases h : p = 10 * b + a
              · subst h; simp [up2, aCo, l2]
              · by_cases h' : p = 10 * a + b <;> simp [up2, aCo, h, h', l2, z]
          · rw [if_neg (fun z => c4 z.2.2.2)] at hr
            have n4 : ¬ I1 92 2 ≤ (100 : Int32) := by rw [l2, show (100 : Int32) = nI 100 from rfl, lit_le (by omega) (by omega)]; omega
            refine V_if_eq_f (tgt := 64) dX11_coldItem_5 (by decide) (by decide) ?_
            refine V_aload_n dX11_coldItem_8 rfl rfl ?_
            refine V_getR dX11_coldItem_9 fl_X11_73 (by first | assumption | exact ⟨by decide, rfl⟩) (by first | assumption | rfl) ?_
            refine V_iconst (v := 0) dX11_coldItem_12 (by decide) ?_
            refine V_ial dX11_coldItem_13 (by first | assumption | exact ⟨by decide, rfl⟩) (show ix _ 0 _ from ⟨rfl, by decide⟩) ?_
            refine V_aload_n dX11_coldItem_14 rfl rfl ?_
            refine V_getR dX11_coldItem_15 fl_X11_13 (by first | assumption | exact ⟨by decide, rfl⟩) (by first | assumption | rfl) ?_
            refine V_iconst (v := 1) dX11_coldItem_18 (by decide) ?_
            refine V_ial dX11_coldItem_19 (by first | assumption | exact ⟨by decide, rfl⟩) (show ix _ 1 _ from ⟨rfl, by decide⟩) ?_
            refine V_icmp_ge_f (tgt := 64) dX11_coldItem_20 (by decide) (n1) ?_
            refine V_aload_n dX11_coldItem_23 rfl rfl ?_
            refine V_getR dX11_coldItem_24 fl_X11_73 (by first | assumption | exact ⟨by decide, rfl⟩) (by first | assumption | rfl) ?_
            refine V_iconst (v := 1) dX11_coldItem_27 (by decide) ?_
            refine V_ial dX11_coldItem_28 (by first | assumption | exact ⟨by decide, rfl⟩) (show ix _ 1 _ from ⟨rfl, by decide⟩) ?_
            refine V_aload_n dX11_coldItem_29 rfl rfl ?_
            refine V_getR dX11_coldItem_30 fl_X11_13 (by first | assumption | exact ⟨by decide, rfl⟩) (by first | assumption | rfl) ?_
            refine V_iconst (v := 1) dX11_coldItem_33 (by decide) ?_
            refine V_ial dX11_coldItem_34 (by first | assumption | exact ⟨by decide, rfl⟩) (show ix _ 1 _ from ⟨rfl, by decide⟩) ?_
            refine V_icmp_ge_f (tgt := 64) dX11_coldItem_35 (by decide) (n2) ?_
            refine V_aload_n dX11_coldItem_38 rfl rfl ?_
            refine V_getR dX11_coldItem_39 fl_X11_73 (by first | assumption | exact ⟨by decide, rfl⟩) (by first | assumption | rfl) ?_
            refine V_iconst (v := 0) dX11_coldItem_42 (by decide) ?_
            refine V_ial dX11_coldItem_43 (by first | assumption | exact ⟨by decide, rfl⟩) (show ix _ 0 _ from ⟨rfl, by decide⟩) ?_
            refine V_aload_n dX11_coldItem_44 rfl rfl ?_
            refine V_getR dX11_coldItem_45 fl_X11_73 (by first | assumption | exact ⟨by decide, rfl⟩) (by first | assumption | rfl) ?_
            refine V_iconst (v := 1) dX11_coldItem_48 (by decide) ?_
            refine V_ial dX11_coldItem_49 (by first | assumption | exact ⟨by decide, rfl⟩) (show ix _ 1 _ from ⟨rfl, by decide⟩) ?_
            refine V_icmp_eq_f (tgt := 64) dX11_coldItem_50 (by decide) (n3) ?_
            refine V_aload_n dX11_coldItem_53 rfl rfl ?_
            refine V_getR dX11_coldItem_54 fl_X11_73 (by first | assumption | exact ⟨by decide, rfl⟩) (by first | assumption | rfl) ?_
            refine V_iconst (v := 2) dX11_coldItem_57 (by decide) ?_
            refine V_ial dX11_coldItem_58 (by first | assumption | exact ⟨by decide, rfl⟩) (show ix _ 2 _ from ⟨rfl, by decide⟩) ?_
            refine V_bipush (v := 100) dX11_coldItem_59 (by decide) ?_
            refine V_icmp_le_f (tgt := 66) dX11_coldItem_61 (by decide) (n4) ?_
            refine V_iconst (v := 0) dX11_coldItem_64 (by decide) ?_
            refine V_ireturn dX11_coldItem_65 rfl rfl rfl (by decide) (by decide) ?_
            exact Kk.1 hr I1 (Fr1.fig g1)
        · rw [if_neg (fun z => c3 z.2.2.1)] at hr
          have n3 : I1 92 0 = I1 92 1 := by rw [l0, l1, Classical.not_not.mp c3]
          refine V_if_eq_f (tgt := 64) dX11_coldItem_5 (by decide) (by decide) ?_
          refine V_aload_n dX11_coldItem_8 rfl rfl ?_
          refine V_getR dX11_coldItem_9 fl_X11_73 (by first | assumption | exact ⟨by decide, rfl⟩) (by first | assumption | rfl) ?_
          refine V_iconst (v := 0) dX11_coldItem_12 (by decide) ?_
          refine V_ial dX11_coldItem_13 (by first | assumption | exact ⟨by decide, rfl⟩) (show ix _ 0 _ from ⟨rfl, by decide⟩) ?_
          refine V_aload_n dX11_coldItem_14 rfl rfl ?_
          refine V_getR dX11_coldItem_15 fl_X11_13 (by first | assumption | exact ⟨by decide, rfl⟩) (by first | assumption | rfl) ?_
          refine V_iconst (v := 1) dX11_coldItem_18 (by decide) ?_
          refine V_ial dX11_coldItem_19 (by first | assumption | exact ⟨by decide, rfl⟩) (show ix _ 1 _ from ⟨rfl, by decide⟩) ?_
          refine V_icmp_ge_f (tgt := 64) dX11_coldItem_20 (by decide) (n1) ?_
          refine V_aload_n dX11_coldItem_23 rfl rfl ?_
          refine V_getR dX11_coldItem_24 fl_X11_73 (by first | assumption | exact ⟨by decide, rfl⟩) (by first | assumption | rfl) ?_
          refine V_iconst (v := 1) dX11_coldItem_27 (by decide) ?_
          refine V_ial dX11_coldItem_28 (by first | assumption | exact ⟨by decide, rfl⟩) (show ix _ 1 _ from ⟨rfl, by decide⟩) ?_
          refine V_aload_n dX11_coldItem_29 rfl rfl ?_
          refine V_getR dX11_coldItem_30 fl_X11_13 (by first | assumption | exact ⟨by decide, rfl⟩) (by first | assumption | rfl) ?_
          refine V_iconst (v := 1) dX11_coldItem_33 (by decide) ?_
          refine V_ial dX11_coldItem_34 (by first | assumption | exact ⟨by decide, rfl⟩) (show ix _ 1 _ from ⟨rfl, by decide⟩) ?_
          refine V_icmp_ge_f (tgt := 64) dX11_coldItem_35 (by decide) (n2) ?_
          refine V_aload_n dX11_coldItem_38 rfl rfl ?_
          refine V_getR dX11_coldItem_39 fl_X11_73 (by first | assumption | exact ⟨by decide, rfl⟩) (by first | assumption | rfl) ?_
          refine V_iconst (v := 0) dX11_coldItem_42 (by decide) ?_
          refine V_ial dX11_coldItem_43 (by first | assumption | exact ⟨by decide, rfl⟩) (show ix _ 0 _ from ⟨rfl, by decide⟩) ?_
          refine V_aload_n dX11_coldItem_44 rfl rfl ?_
          refine V_getR dX11_coldItem_45 fl_X11_73 (by first | assumption | exact ⟨by decide, rfl⟩) (by first | assumption | rfl) ?_
          refine V_iconst (v := 1) dX11_coldItem_48 (by decide) ?_
          refine V_ial dX11_coldItem_49 (by first | assumption | exact ⟨by decide, rfl⟩) (show ix _ 1 _ from ⟨rfl, by decide⟩) ?_
          refine V_icmp_eq_t (tgt := 64) dX11_coldItem_50 (by decide) (n3) ?_
          refine V_iconst (v := 0) dX11_coldItem_64 (by decide) ?_
          refine V_ireturn dX11_coldItem_65 rfl rfl rfl (by decide) (by decide) ?_
          exact Kk.1 hr I1 (Fr1.fig g1)
      · rw [if_neg (fun z => c2 z.2.1)] at hr
        refine V_if_eq_f (tgt := 64) dX11_coldItem_5 (by decide) (by decide) ?_
        refine V_aload_n dX11_coldItem_8 rfl rfl ?_
        refine V_getR dX11_coldItem_9 fl_X11_73 (by first | assumption | exact ⟨by decide, rfl⟩) (by first | assumption | rfl) ?_
        refine V_iconst (v := 0) dX11_coldItem_12 (by decide) ?_
        refine V_ial dX11_coldItem_13 (by first | assumption | exact ⟨by decide, rfl⟩) (show ix _ 0 _ from ⟨rfl, by decide⟩) ?_
        refine V_aload_n dX11_coldItem_14 rfl rfl ?_
        refine V_getR dX11_coldItem_15 fl_X11_13 (by first | assumption | exact ⟨by decide, rfl⟩) (by first | assumption | rfl) ?_
        refine V_iconst (v := 1) dX11_coldItem_18 (by decide) ?_
        refine V_ial dX11_coldItem_19 (by first | assumption | exact ⟨by decide, rfl⟩) (show ix _ 1 _ from ⟨rfl, by decide⟩) ?_
        refine V_icmp_ge_f (tgt := 64) dX11_coldItem_20 (by decide) (n1) ?_
        refine V_aload_n dX11_coldItem_23 rfl rfl ?_
        refine V_getR dX11_coldItem_24 fl_X11_73 (by first | assumption | exact ⟨by decide, rfl⟩) (by first | assumption | rfl) ?_
        refine V_iconst (v := 1) dX11_coldItem_27 (by decide) ?_
        refine V_ial dX11_coldItem_28 (by first | assumption | exact ⟨by decide, rfl⟩) (show ix _ 1 _ from ⟨rfl, by decide⟩) ?_
        refine V_aload_n dX11_coldItem_29 rfl rfl ?_
        refine V_getR dX11_coldItem_30 fl_X11_13 (by first | assumption | exact ⟨by decide, rfl⟩) (by first | assumption | rfl) ?_
        refine V_iconst (v := 1) dX11_coldItem_33 (by decide) ?_
        refine V_ial dX11_coldItem_34 (by first | assumption | exact ⟨by decide, rfl⟩) (show ix _ 1 _ from ⟨rfl, by decide⟩) ?_
        refine V_icmp_ge_t (tgt := 64) dX11_coldItem_35 (by decide) (by rw [l1, hX.1]; exact nI_le (by omega) (by omega)) ?_
        refine V_iconst (v := 0) dX11_coldItem_64 (by decide) ?_
        refine V_ireturn dX11_coldItem_65 rfl rfl rfl (by decide) (by decide) ?_
        exact Kk.1 hr I1 (Fr1.fig g1)
    · rw [if_neg (fun z => c1 z.1)] at hr
      refine V_if_eq_f (tgt := 64) dX11_coldItem_5 (by decide) (by decide) ?_
      refine V_aload_n dX11_coldItem_8 rfl rfl ?_
      refine V_getR dX11_coldItem_9 fl_X11_73 (by first | assumption | exact ⟨by decide, rfl⟩) (by first | assumption | rfl) ?_
      refine V_iconst (v := 0) dX11_coldItem_12 (by decide) ?_
      refine V_ial dX11_coldItem_13 (by first | assumption | exact ⟨by decide, rfl⟩) (show ix _ 0 _ from ⟨rfl, by decide⟩) ?_
      refine V_aload_n dX11_coldItem_14 rfl rfl ?_
      refine V_getR dX11_coldItem_15 fl_X11_13 (by first | assumption | exact ⟨by decide, rfl⟩) (by first | assumption | rfl) ?_
      refine V_iconst (v := 1) dX11_coldItem_18 (by decide) ?_
      refine V_ial dX11_coldItem_19 (by first | assumption | exact ⟨by decide, rfl⟩) (show ix _ 1 _ from ⟨rfl, by decide⟩) ?_
      refine V_icmp_ge_t (tgt := 64) dX11_coldItem_20 (by decide) (by rw [l0, hX.1]; exact nI_le (by omega) (by omega)) ?_
      refine V_iconst (v := 0) dX11_coldItem_64 (by decide) ?_
      refine V_ireturn dX11_coldItem_65 rfl rfl rfl (by decide) (by decide) ?_
      exact Kk.1 hr I1 (Fr1.fig g1)
theorem mr_numberItem (hT : MTX I t len) (hX : M1 I K) (hk : I 70 23 = nI k) (hk2 : k ≤ 500) {q mo u : Nat} (hq : q = 0 ∧ mo = 99 ∧ u = 109 ∨ q = 1 ∧ mo = 9 ∧ u = 116 ∨ q = 2 ∧ mo = 99 ∧ u = 102) (Kk : IT t len 1 u K k Post I J (RR co dr cc a1 a2)) : Cal E 3 M_X11_numberItem [.ref 70, .int (nI q), .int (nI mo)] NC I J (RR co dr cc a1 a2) Post := by
  refine Cal_of kn_X11_numberItem rfl (Nat.le_of_ble_eq_true rfl) ?_
  refine V_aload_n dX11_numberItem_0 rfl rfl (V_iconst (v := 1) dX11_numberItem_1 (by decide) ?_)
  refine V_cV1i (M' := M_X11_figures) (d' := 2) dX11_numberItem_2 (Or.inl ml_X11_147) kb_X11_figures (by first | assumption | exact ⟨by decide, rfl⟩) (by first | decide | omega) (by simp [Value.category]) ⟨by decide, by decide⟩ ?_
  refine mr_figures hT (m := 1) (by decide) hk hk2 (fun hn I1 g1 => ⟨_, rfl, ?_⟩) (fun p l hs I1 g1 g2 g3 => ⟨_, rfl, ?_⟩)
  · refine V_if_eq_t (tgt := 18) dX11_numberItem_5 (by decide) (rfl) ?_
    refine V_iconst (v := 0) dX11_numberItem_18 (by decide) ?_
    refine V_ireturn dX11_numberItem_19 rfl rfl rfl (by decide) (by decide) ?_
    exact Kk.1 (rif_none hn) I1 (Fr1.fig g1)
  · have hX := hX.fig g1
    have hle := (fgs_le t len 1 k p l hs).1
    have l0 := g3 0 (by decide)
    have b0 := hle 0
    have tk : takeK K u (fun j => l.getD j 0) 1 = if l.getD 0 0 ≤ mo then some (up2 K 0 (4 + q) (l.getD 0 0)) else none := by rcases hq with ⟨rfl, rfl, rfl⟩ | ⟨rfl, rfl, rfl⟩ | ⟨rfl, rfl, rfl⟩ <;> simp [takeK]
    have hr := rif_some (u := u) (K := K) hs
    rw [tk] at hr
    generalize l.getD 0 0 = a at *
    by_cases c1 : a ≤ mo
    · rw [if_pos c1] at hr
      refine V_if_eq_f (tgt := 18) dX11_numberItem_5 (by decide) (by decide) ?_
      refine V_aload_n dX11_numberItem_8 rfl rfl ?_
      refine V_getR dX11_numberItem_9 fl_X11_73 (by first | assumption | exact ⟨by decide, rfl⟩) (by first | assumption | rfl) ?_
      refine V_iconst (v := 0) dX11_numberItem_12 (by decide) ?_
      refine V_ial dX11_numberItem_13 (by first | assumption | exact ⟨by decide, rfl⟩) (show ix _ 0 _ from ⟨rfl, by decide⟩) ?_
      refine V_iload_n dX11_numberItem_14 rfl rfl ?_
      refine V_icmp_le_t (tgt := 20) dX11_numberItem_15 (by decide) (by rw [l0]; exact nI_le c1 (by omega)) ?_
      refine V_aload_n dX11_numberItem_20 rfl rfl ?_
      refine V_getR dX11_numberItem_21 fl_X11_58 (by first | assumption | exact ⟨by decide, rfl⟩) (by first | assumption | rfl) ?_
      refine V_iconst (v := 5) dX11_numberItem_24 (by decide) (V_iload_n dX11_numberItem_25 rfl rfl (V_iadd dX11_numberItem_26 (V_aload_n dX11_numberItem_27 rfl rfl ?_)))
      refine V_getR dX11_numberItem_28 fl_X11_73 (by first | assumption | exact ⟨by decide, rfl⟩) (by first | assumption | rfl) ?_
      refine V_iconst (v := 0) dX11_numberItem_31 (by decide) ?_
      refine V_ial dX11_numberItem_32 (by first | assumption | exact ⟨by decide, rfl⟩) (show ix _ 0 _ from ⟨rfl, by decide⟩) ?_
      refine V_ias dX11_numberItem_33 (by first | assumption | exact ⟨by decide, rfl⟩) (show ix _ (5 + q) 10 from ixa (a := 5) (by omega)) ?_
      refine V_iconst (v := 1) dX11_numberItem_34 (by decide) ?_
      refine V_ireturn dX11_numberItem_35 rfl rfl rfl (by decide) (by decide) ?_
      refine Kk.2 p _ hr _ (fun x y a b c => by have := ofs_f x; rw [u2n (by omega)]; exact g1 x y a b) (by rw [u2n (by omega)]; exact g2) ?_
      rcases hq with ⟨rfl, rfl, rfl⟩ | ⟨rfl, rfl, rfl⟩ | ⟨rfl, rfl, rfl⟩
      · obtain ⟨a1, a2, a3, a4, b1, b2, b3, b4, b5, d1, d2, e, f1, f2, f3, f4, g, k1, k2, l⟩ := hX
        refine ⟨?_, ?_, ?_, ?_, ?_, ?_, ?_, ?_, ?_, fun p hp => ?_, fun p hp => ?_, fun p hp => ?_, fun p hp => ?_, fun p hp => ?_, fun p hp => ?_, fun p hp => ?_, fun p hp => ?_, fun p hp => ?_, fun p hp => ?_, fun p hp => ?_⟩
        · simp [up2, l0, a1, nI_1]
        · simp [up2, l0, a2, nI_1]
        · simp [up2, l0, a3, nI_1]
        · simp [up2, l0, a4, nI_1]
        · simp [up2, l0, b1, nI_1]
        · simp [up2, l0, b2, nI_1]
        · simp [up2, l0, b3, nI_1]
        · simp [up2, l0, b4, nI_1]
        · simp [up2, l0, b5, nI_1]
        · have hp : p < K 0 0 := by simpa [up2, l0] using hp
          simp [up2, l0, d1 p hp]
        · have hp : p < K 0 0 := by simpa [up2, l0] using hp
          simp [up2, l0, d2 p hp]
        · simp [up2, l0, e p hp]
        · have hp : p < K 0 1 := by simpa [up2, l0] using hp
          simp [up2, l0, f1 p hp]
        · have hp : p < K 0 1 := by simpa [up2, l0] using hp
          simp [up2, l0, f2 p hp]
        · have hp : p < K 0 1 := by simpa [up2, l0] using hp
          simp [up2, l0, f3 p hp]
        · have hp : p < K 0 1 := by simpa [up2, l0] using hp
          simp [up2, l0, f4 p hp]
        · simp [up2, l0, g p hp]
        · have hp : p < K 0 2 := by simpa [up2, l0] using hp
          simp [up2, l0, k1 p hp]
        · have hp : p < K 0 2 := by simpa [up2, l0] using hp
          simp [up2, l0, k2 p hp]
        · simp [up2, l0, l p hp]
      · obtain ⟨a1, a2, a3, a4, b1, b2, b3, b4, b5, d1, d2, e, f1, f2, f3, f4, g, k1, k2, l⟩ := hX
        refine ⟨?_, ?_, ?_, ?_, ?_, ?_, ?_, ?_, ?_, fun p hp => ?_, fun p hp => ?_, fun p hp => ?_, fun p hp => ?_, fun p hp => ?_, fun p hp => ?_, fun p hp => ?_, fun p hp => ?_, fun p hp => ?_, fun p hp => ?_, fun p hp => ?_⟩
        · simp [up2, l0, a1, nI_1]
        · simp [up2, l0, a2, nI_1]
        · simp [up2, l0, a3, nI_1]
        · simp [up2, l0, a4, nI_1]
        · simp [up2, l0, b1, nI_1]
        · simp [up2, l0, b2, nI_1]
        · simp [up2, l0, b3, nI_1]
        · simp [up2, l0, b4, nI_1]
        · simp [up2, l0, b5, nI_1]
        · have hp : p < K 0 0 := by simpa [up2, l0] using hp
          simp [up2, l0, d1 p hp]
        · have hp : p < K 0 0 := by simpa [up2, l0] using hp
          simp [up2, l0, d2 p hp]
        · simp [up2, l0, e p hp]
        · have hp : p < K 0 1 := by simpa [up2, l0] using hp
          simp [up2, l0, f1 p hp]
        · have hp : p < K 0 1 := by simpa [up2, l0] using hp
          simp [up2, l0, f2 p hp]
        · have hp : p < K 0 1 := by simpa [up2, l0] using hp
          simp [up2, l0, f3 p hp]
        · have hp : p < K 0 1 := by simpa [up2, l0] using hp
          simp [up2, l0, f4 p hp]
        · simp [up2, l0, g p hp]
        · have hp : p < K 0 2 := by simpa [up2, l0] using hp
          simp [up2, l0, k1 p hp]
        · have hp : p < K 0 2 := by simpa [up2, l0] using hp
          simp [up2, l0, k2 p hp]
        · simp [up2, l0, l p hp]
      · obtain ⟨a1, a2, a3, a4, b1, b2, b3, b4, b5, d1, d2, e, f1, f2, f3, f4, g, k1, k2, l⟩ := hX
        refine ⟨?_, ?_, ?_, ?_, ?_, ?_, ?_, ?_, ?_, fun p hp => ?_, fun p hp => ?_, fun p hp => ?_, fun p hp => ?_, fun p hp => ?_, fun p hp => ?_, fun p hp => ?_, fun p hp => ?_, fun p hp => ?_, fun p hp => ?_, fun p hp => ?_⟩
        · simp [up2, l0, a1, nI_1]
        · simp [up2, l0, a2, nI_1]
        · simp [up2, l0, a3, nI_1]
        · simp [up2, l0, a4, nI_1]
        · simp [up2, l0, b1, nI_1]
        · simp [up2, l0, b2, nI_1]
        · simp [up2, l0, b3, nI_1]
        · simp [up2, l0, b4, nI_1]
        · simp [up2, l0, b5, nI_1]
        · have hp : p < K 0 0 := by simpa [up2, l0] using hp
          simp [up2, l0, d1 p hp]
        · have hp : p < K 0 0 := by simpa [up2, l0] using hp
          simp [up2, l0, d2 p hp]
        · simp [up2, l0, e p hp]
        · have hp : p < K 0 1 := by simpa [up2, l0] using hp
          simp [up2, l0, f1 p hp]
        · have hp : p < K 0 1 := by simpa [up2, l0] using hp
          simp [up2, l0, f2 p hp]
        · have hp : p < K 0 1 := by simpa [up2, l0] using hp
          simp [up2, l0, f3 p hp]
        · have hp : p < K 0 1 := by simpa [up2, l0] using hp
          simp [up2, l0, f4 p hp]
        · simp [up2, l0, g p hp]
        · have hp : p < K 0 2 := by simpa [up2, l0] using hp
          simp [up2, l0, k1 p hp]
        · have hp : p < K 0 2 := by simpa [up2, l0] using hp
          simp [up2, l0, k2 p hp]
        · simp [up2, l0, l p hp]
    · rw [if_neg c1] at hr
      refine V_if_eq_f (tgt := 18) dX11_numberItem_5 (by decide) (by decide) ?_
      refine V_aload_n dX11_numberItem_8 rfl rfl ?_
      refine V_getR dX11_numberItem_9 fl_X11_73 (by first | assumption | exact ⟨by decide, rfl⟩) (by first | assumption | rfl) ?_
      refine V_iconst (v := 0) dX11_numberItem_12 (by decide) ?_
      refine V_ial dX11_numberItem_13 (by first | assumption | exact ⟨by decide, rfl⟩) (show ix _ 0 _ from ⟨rfl, by decide⟩) ?_
      refine V_iload_n dX11_numberItem_14 rfl rfl ?_
      refine V_icmp_le_f (tgt := 20) dX11_numberItem_15 (by decide) (by rw [l0]; exact nI_ge (by omega) (by omega)) ?_
      refine V_iconst (v := 0) dX11_numberItem_18 (by decide) ?_
      refine V_ireturn dX11_numberItem_19 rfl rfl rfl (by decide) (by decide) ?_
      exact Kk.1 hr I1 (Fr1.fig g1)
end
