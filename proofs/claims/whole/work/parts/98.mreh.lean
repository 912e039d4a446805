/-! Call of the reference: rehearsals -/
def tlK (K : KT) : Nat → List Nat
  | 0 => []
  | t + 1 => if mayt K t = true then tlK K t ++ [t] else tlK K t
theorem lsM_tl (K : KT) (td : Nat) (sd : Nat → Nat) : ∀ n, lsM K td sd n = (tlK K n).map (itK K td sd)
  | 0 => rfl
  | n + 1 => by
    unfold lsM tlK
    cases h : mayt K n
    · simpa using lsM_tl K td sd n
    · simp [lsM_tl K td sd n]
theorem tlK_in (K : KT) : ∀ n t, t ∈ tlK K n → t < n ∧ mayt K t = true
  | 0, t, h => by simp [tlK] at h
  | n + 1, t, h => by
    unfold tlK at h
    cases hm : mayt K n
    · rw [hm] at h
      have := tlK_in K n t (by simpa using h)
      exact ⟨by omega, this.2⟩
    · rw [hm, if_pos rfl] at h
      rcases List.mem_append.mp h with h | h
      · have := tlK_in K n t h
        exact ⟨by omega, this.2⟩
      · have : t = n := by simpa using h
        subst this
        exact ⟨by omega, hm⟩
theorem tlK_len (K : KT) : ∀ n, (tlK K n).length ≤ n
  | 0 => by simp [tlK]
  | n + 1 => by
    have := tlK_len K n
    unfold tlK
    split
    · simp; omega
    · omega
theorem tlK_row (K : KT) (p : Nat) : ∀ r, K 0 1 + r ≤ 8 → tlK K (8 * p + K 0 1 + r) = tlK K (8 * p + K 0 1)
  | 0, _ => rfl
  | r + 1, h => by
    have e : mayt K (8 * p + K 0 1 + r) = false := by
      unfold mayt
      rw [decide_eq_false (by omega)]; rfl
    show (if mayt K (8 * p + K 0 1 + r) = true then _ else tlK K (8 * p + K 0 1 + r)) = _
    rw [e]
    exact tlK_row K p r (by omega)
/-- a is what is chosen of the rest with all hours, b with those that are left -/
def tkn (x : Itm) (a b : List Itm) (h : Nat) : Bool := decide (x.2.2 ≤ h ∧ (gs a < x.2.1 + gs b ∨ x.2.1 + gs b = gs a ∧ x.2.2 + hs b ≤ hs a))
def chR : List Itm → Nat → List Itm
  | [], _ => []
  | x :: l, h => if tkn x (chR l h) (chR l (h - x.2.2)) h = true then x :: chR l (h - x.2.2) else chR l h
theorem wL_ge1 (x : Itm) (l : List Itm) (h : Nat) : wL l h ≤ wL (x :: l) h := by
  rw [wL]
  split
  · rename_i q; exact q.2
  · exact Nat.le_refl _
theorem wL_ge2 (x : Itm) (l : List Itm) (h : Nat) (ho : x.2.2 ≤ h) : 128 * x.2.1 - x.2.2 + wL l (h - x.2.2) ≤ wL (x :: l) h := by
  rw [wL]
  split
  · exact Nat.le_refl _
  · rename_i q
    have : ¬ wL l h ≤ 128 * x.2.1 - x.2.2 + wL l (h - x.2.2) := fun z => q ⟨ho, z⟩
    omega
theorem wL_mono : ∀ (l : List Itm) (h h' : Nat), h' ≤ h → wL l h' ≤ wL l h
  | [], h, h', _ => Nat.le_refl _
  | x :: l, h, h', hh => by
    have e : wL (x :: l) h' = if x.2.2 ≤ h' ∧ wL l h' ≤ 128 * x.2.1 - x.2.2 + wL l (h' - x.2.2) then 128 * x.2.1 - x.2.2 + wL l (h' - x.2.2) else wL l h' := rfl
    rw [e]
    split
    · rename_i q
      have h1 := wL_ge2 x l h (by omega)
      have h2 := wL_mono l (h - x.2.2) (h' - x.2.2) (by omega)
      omega
    · have h1 := wL_ge1 x l h
      have h2 := wL_mono l h h' hh
      omega
theorem chR_eq : ∀ (l : List Itm), (∀ x ∈ l, 1 ≤ x.2.2 ∧ x.2.2 ≤ 10) → ∀ h, h ≤ 99 → chR l h = chL (l.filter (fun x => decide (0 < x.2.1))) h ∧ wL (l.filter (fun x => decide (0 < x.2.1))) h + hs (chR l h) = 128 * gs (chR l h) ∧ hs (chR l h) ≤ h
  | [], _, h, _ => ⟨rfl, rfl, Nat.zero_le _⟩
  | x :: l, hb, h, hh => by
    have hx := hb x List.mem_cons_self
    have hb' : ∀ y ∈ l, 1 ≤ y.2.2 ∧ y.2.2 ≤ 10 := fun y hy => hb y (List.mem_cons_of_mem _ hy)
    obtain ⟨a1, a2, a3⟩ := chR_eq l hb' h hh
    obtain ⟨b1, b2, b3⟩ := chR_eq l hb' (h - x.2.2) (by omega)
    have eR : chR (x :: l) h = if tkn x (chR l h) (chR l (h - x.2.2)) h = true then x :: chR l (h - x.2.2) else chR l h := rfl
    by_cases hg : 0 < x.2.1
    · rw [List.filter_cons_of_pos (by simpa using hg)]
      have eL : chL (x :: l.filter (fun x => decide (0 < x.2.1))) h = if x.2.2 ≤ h ∧ wL (l.filter (fun x => decide (0 < x.2.1))) h ≤ 128 * x.2.1 - x.2.2 + wL (l.filter (fun x => decide (0 < x.2.1))) (h - x.2.2) then x :: chL (l.filter (fun x => decide (0 < x.2.1))) (h - x.2.2) else chL (l.filter (fun x => decide (0 < x.2.1))) h := rfl
      have eW : wL (x :: l.filter (fun x => decide (0 < x.2.1))) h = if x.2.2 ≤ h ∧ wL (l.filter (fun x => decide (0 < x.2.1))) h ≤ 128 * x.2.1 - x.2.2 + wL (l.filter (fun x => decide (0 < x.2.1))) (h - x.2.2) then 128 * x.2.1 - x.2.2 + wL (l.filter (fun x => decide (0 < x.2.1))) (h - x.2.2) else wL (l.filter (fun x => decide (0 < x.2.1))) h := rfl
      rw [eR, eL, eW]
      by_cases ht : tkn x (chR l h) (chR l (h - x.2.2)) h = true
      · have ht2 := of_decide_eq_true ht
        have hc : x.2.2 ≤ h ∧ wL (l.filter (fun x => decide (0 < x.2.1))) h ≤ 128 * x.2.1 - x.2.2 + wL (l.filter (fun x => decide (0 < x.2.1))) (h - x.2.2) := ⟨ht2.1, by omega⟩
        rw [if_pos ht, if_pos hc, if_pos hc, b1]
        refine ⟨rfl, ?_, ?_⟩
        · rw [← b1]
          show _ + (x.2.2 + hs (chR l (h - x.2.2))) = 128 * (x.2.1 + gs (chR l (h - x.2.2)))
          omega
        · rw [← b1]
          show x.2.2 + hs (chR l (h - x.2.2)) ≤ h
          omega
      · have ht2 := of_decide_eq_false (by simpa using ht : tkn x (chR l h) (chR l (h - x.2.2)) h = false)
        have hc : ¬ (x.2.2 ≤ h ∧ wL (l.filter (fun x => decide (0 < x.2.1))) h ≤ 128 * x.2.1 - x.2.2 + wL (l.filter (fun x => decide (0 < x.2.1))) (h - x.2.2)) := by
          intro z
          apply ht2
          refine ⟨z.1, ?_⟩
          omega
        rw [if_neg ht, if_neg hc, if_neg hc]
        exact ⟨a1, a2, a3⟩
    · rw [List.filter_cons_of_neg (by simpa using hg)]
      have hm := wL_mono (l.filter (fun x => decide (0 < x.2.1))) h (h - x.2.2) (by omega)
      have ht : ¬ tkn x (chR l h) (chR l (h - x.2.2)) h = true := by
        intro z
        have z2 := of_decide_eq_true z
        omega
      rw [eR, if_neg ht]
      exact ⟨a1, a2, a3⟩
theorem chR_gs : ∀ (l : List Itm) (h : Nat), (∀ x ∈ l, x.2.1 ≤ 999) → gs (chR l h) ≤ 999 * l.length
  | [], h, _ => by simp [chR, gs]
  | x :: l, h, hb => by
    have hx := hb x List.mem_cons_self
    have hb' : ∀ y ∈ l, y.2.1 ≤ 999 := fun y hy => hb y (List.mem_cons_of_mem _ hy)
    have h1 := chR_gs l h hb'
    have h2 := chR_gs l (h - x.2.2) hb'
    rw [chR, List.length_cons]
    split
    · show x.2.1 + gs _ ≤ _
      omega
    · omega
def PRM (I : TI) (L : List Nat) : Prop := I 70 32 = nI L.length ∧ ∀ k t, L[k]? = some t → I 98 k = nI t
section
variable {E : En} {I : TI} {J : TJ} {co dr : Nat} {cc a1 a2 : Option Nat} {Post : PT} {K : KT} {D : Di}
theorem mr_layPairs (hB : KB K) (hM : MB I K) (hR : MR I K) (Kk : ∀ I', (∀ x y, x ≠ 98 → (x ≠ 70 ∨ y ≠ 32) → I' x y = I x y) → PRM I' (tlK K (8 * K 0 0)) → Post none NC I' J (RR co dr cc a1 a2)) : Cal E 2 M_X11_layPairs [.ref 70] NC I J (RR co dr cc a1 a2) Post := by
  have hP := hB.1.1
  have hQ := hB.1.2.1
  refine Cal_of kn_X11_layPairs rfl (Nat.le_of_ble_eq_true rfl) ?_
  refine V_aload_n dX11_layPairs_0 rfl rfl (V_iconst (v := 0) dX11_layPairs_1 (by decide) ?_)
  refine V_putI dX11_layPairs_2 fl_X11_247 (by first | assumption | exact ⟨by decide, rfl⟩) ?_
  refine V_iconst (v := 0) dX11_layPairs_5 (by decide) (V_istore_1 dX11_layPairs_6 (by decide) rfl ?_)
  have key : ∀ p, p ≤ K 0 0 → ∀ I1, (∀ x y, x ≠ 98 → (x ≠ 70 ∨ y ≠ 32) → I1 x y = I x y) → PRM I1 (tlK K (8 * p)) → V E 2 M_X11_layPairs Post 7 [some (.ref 70), some (.int (nI p)), none] [] NC 0 0 I1 J (RR co dr cc a1 a2) := by
    refine loop_up (K 0 0) ?_ ?_
    · intro I1 f1 g1
      refine V_iload_n dX11_layPairs_7 rfl rfl (V_aload_n dX11_layPairs_8 rfl rfl ?_)
      refine V_getR dX11_layPairs_9 fl_X11_13 (by first | assumption | exact ⟨by decide, rfl⟩) (by first | assumption | rfl) ?_
      refine V_iconst (v := 0) dX11_layPairs_12 (by decide) ?_
      refine V_ial dX11_layPairs_13 (by first | assumption | exact ⟨by decide, rfl⟩) (show ix _ 0 _ from ⟨rfl, by decide⟩) ?_
      refine V_icmp_ge_t (tgt := 79) dX11_layPairs_14 (by decide) (by rw [f1 _ _ (by omega) (by omega), hM.n0]; exact nI_le (by omega) (by omega)) ?_
      refine V_return dX11_layPairs_79 rfl rfl (by decide) (by decide) ?_
      exact Kk I1 f1 g1
    · intro p hp ih I1 f1 g1
      refine V_iload_n dX11_layPairs_7 rfl rfl (V_aload_n dX11_layPairs_8 rfl rfl ?_)
      refine V_getR dX11_layPairs_9 fl_X11_13 (by first | assumption | exact ⟨by decide, rfl⟩) (by first | assumption | rfl) ?_
      refine V_iconst (v := 0) dX11_layPairs_12 (by decide) ?_
      refine V_ial dX11_layPairs_13 (by first | assumption | exact ⟨by decide, rfl⟩) (show ix _ 0 _ from ⟨rfl, by decide⟩) ?_
      refine V_icmp_ge_f (tgt := 79) dX11_layPairs_14 (by decide) (by rw [f1 _ _ (by omega) (by omega), hM.n0]; exact nI_ge hp (by omega)) ?_
      refine V_iconst (v := 0) dX11_layPairs_17 (by decide) (V_istore_2 dX11_layPairs_18 (by decide) rfl ?_)
      have key2 : ∀ i, i ≤ K 0 1 → ∀ I2, (∀ x y, x ≠ 98 → (x ≠ 70 ∨ y ≠ 32) → I2 x y = I x y) → PRM I2 (tlK K (8 * p + i)) → V E 2 M_X11_layPairs Post 19 [some (.ref 70), some (.int (nI p)), some (.int (nI i))] [] NC 0 0 I2 J (RR co dr cc a1 a2) := by
        refine loop_up (K 0 1) ?_ ?_
        · intro I2 f2 g2
          refine V_iload_n dX11_layPairs_19 rfl rfl (V_aload_n dX11_layPairs_20 rfl rfl ?_)
          refine V_getR dX11_layPairs_21 fl_X11_22 (by first | assumption | exact ⟨by decide, rfl⟩) (by first | assumption | rfl) ?_
          refine V_iconst (v := 0) dX11_layPairs_24 (by decide) ?_
          refine V_ial dX11_layPairs_25 (by first | assumption | exact ⟨by decide, rfl⟩) (show ix _ 0 _ from ⟨rfl, by decide⟩) ?_
          refine V_icmp_ge_t (tgt := 73) dX11_layPairs_26 (by decide) (by rw [f2 _ _ (by omega) (by omega), hM.n1]; exact nI_le (by omega) (by omega)) ?_
          refine V_iinc_1 (w := 1) dX11_layPairs_73 (by decide) (by decide) rfl (V_goto (tgt := 7) dX11_layPairs_76 (by decide) ?_)
          rw [nI_1]
          refine V_forget (ih I2 f2 ?_) (by simp [lessb])
          have := tlK_row K p (8 - K 0 1) (by omega)
          rw [show 8 * p + K 0 1 + (8 - K 0 1) = 8 * (p + 1) by omega] at this
          rw [this]; exact g2
        · intro i hi ih2 I2 f2 g2
          have hl := tlK_len K (8 * p + i)
          refine V_iload_n dX11_layPairs_19 rfl rfl (V_aload_n dX11_layPairs_20 rfl rfl ?_)
          refine V_getR dX11_layPairs_21 fl_X11_22 (by first | assumption | exact ⟨by decide, rfl⟩) (by first | assumption | rfl) ?_
          refine V_iconst (v := 0) dX11_layPairs_24 (by decide) ?_
          refine V_ial dX11_layPairs_25 (by first | assumption | exact ⟨by decide, rfl⟩) (show ix _ 0 _ from ⟨rfl, by decide⟩) ?_
          refine V_icmp_ge_f (tgt := 73) dX11_layPairs_26 (by decide) (by rw [f2 _ _ (by omega) (by omega), hM.n1]; exact nI_ge hi (by omega)) ?_
          refine V_aload_n dX11_layPairs_29 rfl rfl ?_
          refine V_getR dX11_layPairs_30 fl_X11_76 (by first | assumption | exact ⟨by decide, rfl⟩) (by first | assumption | rfl) ?_
          refine V_iload_n dX11_layPairs_33 rfl rfl ?_
          refine V_ial dX11_layPairs_34 (by first | assumption | exact ⟨by decide, rfl⟩) (show ix _ p 10 from ⟨rfl, by omega⟩) ?_
          refine V_iload_n dX11_layPairs_35 rfl rfl ?_
          refine V_cS2i (M' := M_X11_has) (d' := 1) dX11_layPairs_36 (Or.inl ml_X11_183) kb_X11_has (by first | decide | omega) (by simp [Value.category]) ⟨by decide, by decide⟩ ?_
          rw [f2 93 p (by omega) (by omega), hR.1 p hp]
          refine sp_mhas (lt31 (mayM_lt hB _) (by decide)) (by omega) ⟨_, rfl, ?_⟩
          rw [mayM_tb hi]
          have em : mayt K (8 * p + i) = may K p i := by
            unfold mayt
            rw [show (8 * p + i) % 8 = i by omega, show (8 * p + i) / 8 = p by omega, decide_eq_true hi]; rfl
          have et : tlK K (8 * p + i + 1) = if may K p i = true then tlK K (8 * p + i) ++ [8 * p + i] else tlK K (8 * p + i) := by
            show (if mayt K (8 * p + i) = true then _ else _) = _
            rw [em]
          cases hm : may K p i
          · refine V_if_eq_t (tgt := 67) dX11_layPairs_39 (by decide) (rfl) ?_
            refine V_iinc_2 (w := 1) dX11_layPairs_67 (by decide) (by decide) rfl (V_goto (tgt := 19) dX11_layPairs_70 (by decide) ?_)
            rw [nI_1]
            refine ih2 I2 f2 ?_
            rw [hm] at et
            show PRM I2 (tlK K (8 * p + i + 1))
            rw [et]; exact g2
          · rw [hm, if_pos rfl] at et
            refine V_if_eq_f (tgt := 67) dX11_layPairs_39 (by decide) (by decide) ?_
            refine V_aload_n dX11_layPairs_42 rfl rfl ?_
            refine V_getR dX11_layPairs_43 fl_X11_91 (by first | assumption | exact ⟨by decide, rfl⟩) (by first | assumption | rfl) ?_
            refine V_aload_n dX11_layPairs_46 rfl rfl ?_
            refine V_getI dX11_layPairs_47 fl_X11_247 (by first | assumption | exact ⟨by decide, rfl⟩) ?_
            refine V_bipush (v := 8) dX11_layPairs_50 (by decide) (V_iload_n dX11_layPairs_52 rfl rfl (V_imul dX11_layPairs_53 (V_iload_n dX11_layPairs_54 rfl rfl (V_iadd dX11_layPairs_55 ?_))))
            refine V_ias dX11_layPairs_56 (by first | assumption | exact ⟨by decide, rfl⟩) (show ix _ (tlK K (8 * p + i)).length 80 from ⟨g2.1, by omega⟩) ?_
            refine V_aload_n dX11_layPairs_57 rfl rfl (V_dup dX11_layPairs_58 rfl ?_)
            refine V_getI dX11_layPairs_59 fl_X11_247 (by first | assumption | exact ⟨by decide, rfl⟩) ?_
            refine V_iconst (v := 1) dX11_layPairs_62 (by decide) (V_iadd dX11_layPairs_63 ?_)
            refine V_putI dX11_layPairs_64 fl_X11_247 (by first | assumption | exact ⟨by decide, rfl⟩) ?_
            refine V_iinc_2 (w := 1) dX11_layPairs_67 (by decide) (by decide) rfl (V_goto (tgt := 19) dX11_layPairs_70 (by decide) ?_)
            rw [nI_1, u2n (a := 70) (by omega), g2.1, nI_1, show (8 : Int32) = nI 8 from rfl, pk_mul, nI_add]
            refine ih2 _ (fun x y a b => by rw [u2n (by omega), u2n (by omega)]; exact f2 x y a b) ?_
            show PRM _ (tlK K (8 * p + i + 1))
            rw [et]
            refine ⟨by rw [u2e]; simp, fun k t hk => ?_⟩
            rw [u2n (by omega)]
            by_cases hkl : k < (tlK K (8 * p + i)).length
            · rw [List.getElem?_append_left hkl] at hk
              rw [u2n (by omega)]; exact g2.2 k t hk
            · have hk2 : k < (tlK K (8 * p + i) ++ [8 * p + i]).length := (List.getElem?_eq_some_iff.mp hk).1
              have hk3 : k = (tlK K (8 * p + i)).length := by simp at hk2; omega
              subst hk3
              rw [u2e]
              simp at hk
              rw [hk]
      exact key2 0 (Nat.zero_le _) I1 f1 g1
  exact key 0 (Nat.zero_le _) _ (fun x y a b => u2n (by omega)) ⟨u2e, fun k t h => by simp [tlK] at h⟩
theorem tl_at (hB : KB K) {k t : Nat} (h : (tlK K (8 * K 0 0))[k]? = some t) : k < 80 ∧ t < 80 ∧ t / 8 < K 0 0 ∧ t % 8 < K 0 1 := by
  have hP := hB.1.1
  have h1 := (List.getElem?_eq_some_iff.mp h).1
  have h2 := tlK_len K (8 * K 0 0)
  obtain ⟨h3, h4⟩ := tlK_in K _ t (List.mem_of_getElem? h)
  unfold mayt at h4
  have h5 : t % 8 < K 0 1 := by
    have := (Bool.and_eq_true _ _).mp h4
    exact of_decide_eq_true this.1
  exact ⟨by omega, by omega, by omega, h5⟩
theorem mr_gainOf (hB : KB K) (hM : MB I K) (hD : MDX I 0 D) (hDB : DB D.1 D.2.1) (hL : PRM I (tlK K (8 * K 0 0))) {k t : Nat} (hk : (tlK K (8 * K 0 0))[k]? = some t) (Kk : Post (some (.int (nI (itK K D.1 D.2.1 t).2.1))) NC I J (RR co dr cc a1 a2)) : Cal E 2 M_X11_gainOf [.ref 70, .int (nI k)] NC I J (RR co dr cc a1 a2) Post := by
  obtain ⟨k1, k2, k3, k4⟩ := tl_at hB hk
  have hP := hB.1.1
  have hQ := hB.1.2.1
  have e98 := hL.2 k t hk
  have e8 : (8 : Int32) = nI 8 := rfl
  have er : nI t - nI t / 8 * 8 = nI (t % 8) := by rw [e8, pk_rem (by omega) (by omega) (by omega)]
  have eq : nI t / 8 = nI (t / 8) := by rw [e8, pk_div (by omega) (by omega) (by omega)]
  refine Cal_of kn_X11_gainOf rfl (Nat.le_of_ble_eq_true rfl) ?_
  refine V_aload_n dX11_gainOf_0 rfl rfl ?_
  refine V_getR dX11_gainOf_1 fl_X11_91 (by first | assumption | exact ⟨by decide, rfl⟩) (by first | assumption | rfl) ?_
  refine V_iload_n dX11_gainOf_4 rfl rfl ?_
  refine V_ial dX11_gainOf_5 (by first | assumption | exact ⟨by decide, rfl⟩) (show ix _ k 80 from ⟨rfl, by omega⟩) ?_
  refine V_bipush (v := 8) dX11_gainOf_6 (by decide) (V_idiv dX11_gainOf_8 (by decide) (V_istore_2 dX11_gainOf_9 (by decide) rfl (V_aload_n dX11_gainOf_10 rfl rfl ?_)))
  refine V_getR dX11_gainOf_11 fl_X11_91 (by first | assumption | exact ⟨by decide, rfl⟩) (by first | assumption | rfl) ?_
  refine V_iload_n dX11_gainOf_14 rfl rfl ?_
  refine V_ial dX11_gainOf_15 (by first | assumption | exact ⟨by decide, rfl⟩) (show ix _ k 80 from ⟨rfl, by omega⟩) ?_
  refine V_bipush (v := 8) dX11_gainOf_16 (by decide) (V_irem dX11_gainOf_18 (by decide) (V_istore_3 dX11_gainOf_19 (by decide) rfl (V_aload_n dX11_gainOf_20 rfl rfl ?_)))
  refine V_getR dX11_gainOf_21 fl_X11_31 (by first | assumption | exact ⟨by decide, rfl⟩) (by first | assumption | rfl) ?_
  refine V_iload_n dX11_gainOf_24 rfl rfl ?_
  refine V_ial dX11_gainOf_25 (by first | assumption | exact ⟨by decide, rfl⟩) (show ix _ (t % 8) 16 from ⟨(by rw [e98, er]), by omega⟩) ?_
  refine V_aload_n dX11_gainOf_26 rfl rfl (V_iload_n dX11_gainOf_27 rfl rfl (V_iload_n dX11_gainOf_28 rfl rfl ?_))
  refine V_cV2i (M' := M_X11_kept) (d' := 1) dX11_gainOf_29 (Or.inl ml_X11_205) kb_X11_kept (by first | assumption | exact ⟨by decide, rfl⟩) (by first | decide | omega) (by simp [Value.category]) ⟨by decide, by decide⟩ ?_
  rw [e98, er, eq, hM.lin k4]
  refine mr_kept hB hM hD hDB (by omega) k4 ⟨_, rfl, ?_⟩
  refine V_isub dX11_gainOf_32 ?_
  refine V_ireturn dX11_gainOf_33 rfl rfl rfl (by decide) (by decide) ?_
  rw [pk_sub (kpt_le _ _ _ _ _)]
  exact Kk
end
