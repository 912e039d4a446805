/-! The timetable: pairs listed, weighed, chosen -/
theorem get_app {L : List Itm} {x y : Itm} {k : Nat} (h : (L ++ [x])[k]? = some y) : (k < L.length ∧ L[k]? = some y) ∨ (k = L.length ∧ y = x) := by
  by_cases hk : k < L.length
  · left; rw [List.getElem?_append_left hk] at h; exact ⟨hk, h⟩
  · right
    rw [List.getElem?_append_right (by omega)] at h
    by_cases h0 : k - L.length = 0
    · rw [h0] at h; simp at h; exact ⟨by omega, h.symm⟩
    · rw [List.getElem?_eq_none (by simp; omega)] at h; cases h
theorem get_lt {L : List Itm} {k : Nat} {x : Itm} (h : L[k]? = some x) : k < L.length := (List.getElem?_eq_some_iff.mp h).1
theorem drop_at {L : List Itm} {k : Nat} {x : Itm} (h : L[k]? = some x) : L.drop k = x :: L.drop (k + 1) := by
  obtain ⟨h1, h2⟩ := List.getElem?_eq_some_iff.mp h
  rw [List.drop_eq_getElem_cons h1, h2]
theorem LB.drop {L : List Itm} (h : LB L) (k : Nat) : LB (L.drop k) := fun x hx => h x (List.mem_of_mem_drop hx)
theorem LB.at {L : List Itm} (h : LB L) {k : Nat} {x : Itm} (hk : L[k]? = some x) : 0 < x.2.1 ∧ x.2.1 ≤ 999 ∧ 1 ≤ x.2.2 ∧ x.2.2 ≤ 10 := h x (List.mem_of_getElem? hk)
theorem wL_small {L : List Itm} (hb : LB L) (hl : L.length ≤ 32) (k h : Nat) : wL (L.drop k) h ≤ 4091904 := by
  have h1 := wL_le (L.drop k) h (hb.drop k)
  have h2 : (L.drop k).length ≤ 32 := by rw [List.length_drop]; omega
  omega
def WRT (I : TI) (L : List Itm) (m hr : Nat) : Prop := ∀ k h, m ≤ k → k ≤ L.length → h ≤ hr → I 68 (100 * k + h) = nI (wL (L.drop k) h)
section
variable {E : En} {I : TI} {J : TJ} {co dr : Nat} {cc a1 a2 : Option Nat} {Post : PT} {c e : Nat} {K : KT} {td : Nat} {sd : Nat → Nat} {ow : Nat → Int32}
theorem sp_listPairs {d : Nat} (hd : 3 ≤ d) (hc : c = 32 ∨ c = 35 ∨ c = 38) (he : e = 4 ∨ e = 18) (hB : KB K) (hKC : KC K) (hX : CoX I e K) (hS : SX I e K) (hD : DX I c td sd ow) (hDB : DB td sd) (Kk : ∀ I', (∀ x y, (x ≠ 64 ∨ y ≠ 3) → x ≠ 65 → x ≠ 66 → x ≠ 67 → I' x y = I x y) → I' 64 3 = nI (lsT K td sd (8 * K 0 0)).length → PRS I' (lsT K td sd (8 * K 0 0)) → Post none NC I' J (RR co dr cc a1 a2)) : Cal E d M_X8_listPairs [.ref 64, .ref e, .ref c] NC I J (RR co dr cc a1 a2) Post := by
  have hP := hB.1.1
  have hQ := hB.1.2.1
  obtain ⟨_, _, _, _, _⟩ := f_di (co := co) (dr := dr) (cc := cc) (a1 := a1) (a2 := a2) (hc)
  obtain ⟨_, _, _, _, _, _, _, _, _, _, _, _, _, _, _, _, _, _, _, _, _, _, _⟩ := f_co (co := co) (dr := dr) (cc := cc) (a1 := a1) (a2 := a2) (he)
  refine Cal_of kn_X8_listPairs rfl (Nat.le_of_ble_eq_true rfl) ?_
  refine V_aload_n dX8_listPairs_0 rfl rfl (V_iconst (v := 0) dX8_listPairs_1 (by decide) ?_)
  refine V_putI dX8_listPairs_2 fl_X8_38 (by first | assumption | exact ⟨by decide, rfl⟩) ?_
  refine V_iconst (v := 0) dX8_listPairs_5 (by decide) (V_istore_3 dX8_listPairs_6 (by decide) rfl ?_)
  have key : ∀ p, p ≤ K 0 0 → ∀ (I1 : TI) (o4 o5 : Option Value), (∀ x y, (x ≠ 64 ∨ y ≠ 3) → x ≠ 65 → x ≠ 66 → x ≠ 67 → I1 x y = I x y) → I1 64 3 = nI (lsT K td sd (8 * p)).length → PRS I1 (lsT K td sd (8 * p)) → V E d M_X8_listPairs Post 7 [some (.ref 64), some (.ref e), some (.ref c), some (.int (nI p)), o4, o5] [] NC 0 0 I1 J (RR co dr cc a1 a2) := by
    refine loop_up _ ?_ ?_
    · intro I1 o4 o5 g1 g2 g3
      have hX1 : CoX I1 e K := hX.of (fun x y q1 q2 => g1 x y (by omega) (by omega) (by omega) (by omega))
      refine V_iload_n dX8_listPairs_7 rfl rfl (V_aload_n dX8_listPairs_8 rfl rfl ?_)
      refine V_getI dX8_listPairs_9 fl_X8_42 (by first | assumption | exact ⟨by decide, rfl⟩) ?_
      refine V_icmp_ge_t (tgt := 129) dX8_listPairs_12 (by decide) (by rw [hX1.1.1]; exact nI_le (Nat.le_refl _) (by omega)) ?_
      refine V_return dX8_listPairs_129 rfl rfl (by decide) (by decide) ?_
      exact Kk I1 g1 g2 g3
    · intro p hp ih I1 o4 o5 g1 g2 g3
      have hX1 : CoX I1 e K := hX.of (fun x y q1 q2 => g1 x y (by omega) (by omega) (by omega) (by omega))
      refine V_iload_n dX8_listPairs_7 rfl rfl (V_aload_n dX8_listPairs_8 rfl rfl ?_)
      refine V_getI dX8_listPairs_9 fl_X8_42 (by first | assumption | exact ⟨by decide, rfl⟩) ?_
      refine V_icmp_ge_f (tgt := 129) dX8_listPairs_12 (by decide) (by rw [hX1.1.1]; exact nI_ge hp (by omega)) ?_
      refine V_iconst (v := 0) dX8_listPairs_15 (by decide) (V_istore_4 dX8_listPairs_16 (by decide) rfl ?_)
      have key2 : ∀ i, i ≤ K 0 1 → ∀ (I2 : TI) (o5 : Option Value), (∀ x y, (x ≠ 64 ∨ y ≠ 3) → x ≠ 65 → x ≠ 66 → x ≠ 67 → I2 x y = I x y) → I2 64 3 = nI (lsT K td sd (8 * p + i)).length → PRS I2 (lsT K td sd (8 * p + i)) → V E d M_X8_listPairs Post 18 [some (.ref 64), some (.ref e), some (.ref c), some (.int (nI p)), some (.int (nI i)), o5] [] NC 0 0 I2 J (RR co dr cc a1 a2) := by
        refine loop_up _ ?_ ?_
        · intro I2 o5 m1 m2 m3
          have hX2 : CoX I2 e K := hX.of (fun x y q1 q2 => m1 x y (by omega) (by omega) (by omega) (by omega))
          refine V_iload dX8_listPairs_18 rfl (V_aload_n dX8_listPairs_20 rfl rfl ?_)
          refine V_getI dX8_listPairs_21 fl_X8_47 (by first | assumption | exact ⟨by decide, rfl⟩) ?_
          refine V_icmp_ge_t (tgt := 123) dX8_listPairs_24 (by decide) (by rw [hX2.1.2.1]; exact nI_le (Nat.le_refl _) (by omega)) ?_
          refine V_iinc_3 (w := 1) dX8_listPairs_123 (by decide) (by decide) rfl (V_goto (tgt := 7) dX8_listPairs_126 (by decide) ?_)
          rw [nI_1]
          have er : lsT K td sd (8 * (p + 1)) = lsT K td sd (8 * p + K 0 1) := by
            rw [← lsT_row K hQ td sd p (8 - K 0 1) (by omega)]
            congr 1; omega
          exact ih I2 _ _ m1 (by rw [er]; exact m2) (by rw [er]; exact m3)
        · intro i hi ih2 I2 o5 m1 m2 m3
          have hX2 : CoX I2 e K := hX.of (fun x y q1 q2 => m1 x y (by omega) (by omega) (by omega) (by omega))
          have hS2 : SX I2 e K := hS.of (fun b => ⟨m1 _ b (by omega) (by omega) (by omega) (by omega), m1 _ b (by omega) (by omega) (by omega) (by omega)⟩)
          have hD2 : DX I2 c td sd ow := ⟨by rw [m1 _ _ (by omega) (by omega) (by omega) (by omega)]; exact hD.1, fun j hj => by rw [m1 _ _ (by omega) (by omega) (by omega) (by omega)]; exact hD.2.1 j hj, fun q hq => by rw [m1 _ _ (by omega) (by omega) (by omega) (by omega)]; exact hD.2.2 q hq⟩
          have hdm : (8 * p + i) / 8 = p ∧ (8 * p + i) % 8 = i := by omega
          have hmy : mayt K (8 * p + i) = may K p i := by unfold mayt; rw [hdm.1, hdm.2, decide_eq_true hi]; rfl
          have hit : itK K td sd (8 * p + i) = (10 * p + i, K 6 i - kpt K td sd p i, (K 6 i + 99) / 100) := by unfold itK; rw [hdm.1, hdm.2]
          have h6 := hB.2.2.2.1 i hi
          have no : ∀ v : Int32, ¬ (may K p i = true ∧ 0 < K 6 i - kpt K td sd p i) → V E d M_X8_listPairs Post 117 [some (.ref 64), some (.ref e), some (.ref c), some (.int (nI p)), some (.int (nI i)), some (.int v)] [] NC 0 0 I2 J (RR co dr cc a1 a2) := by
            intro v hno
            have es : lsT K td sd (8 * p + (i + 1)) = lsT K td sd (8 * p + i) := by
              rw [show 8 * p + (i + 1) = 8 * p + i + 1 by omega, lsT_succ, hmy, hit, if_neg hno]
            refine V_iinc_4 (w := 1) dX8_listPairs_117 (by decide) (by decide) rfl (V_goto (tgt := 18) dX8_listPairs_120 (by decide) ?_)
            rw [nI_1]
            exact ih2 I2 _ m1 (by rw [es]; exact m2) (by rw [es]; exact m3)
          refine V_iload dX8_listPairs_18 rfl (V_aload_n dX8_listPairs_20 rfl rfl ?_)
          refine V_getI dX8_listPairs_21 fl_X8_47 (by first | assumption | exact ⟨by decide, rfl⟩) ?_
          refine V_icmp_ge_f (tgt := 123) dX8_listPairs_24 (by decide) (by rw [hX2.1.2.1]; exact nI_ge hi (by omega)) ?_
          refine V_aload_n dX8_listPairs_27 rfl rfl (V_iload_n dX8_listPairs_28 rfl rfl (V_iload dX8_listPairs_29 rfl ?_))
          refine V_cV2i (M' := M_X3_mayPlay) (d' := 2) dX8_listPairs_31 (Or.inl ml_X8_50) kb_X3_mayPlay (by first | assumption | exact ⟨by decide, rfl⟩) (by first | decide | omega) (by simp [Value.category]) ⟨by decide, by decide⟩ ?_
          refine sp_mayPlay he hB hS2 hp hi ⟨_, rfl, ?_⟩
          cases hm : may K p i
          · refine V_if_eq_t (tgt := 48) dX8_listPairs_34 (by decide) (rfl) ?_
            refine V_iconst (v := 0) dX8_listPairs_48 (by decide) (V_istore_5 dX8_listPairs_49 (by decide) rfl (V_iload dX8_listPairs_51 rfl ?_))
            refine V_if_le_t (tgt := 117) dX8_listPairs_53 (by decide) (by decide) ?_
            exact no _ (fun z => by rw [hm] at z; exact absurd z.1 (by decide))
          · refine V_if_eq_f (tgt := 48) dX8_listPairs_34 (by decide) (by decide) ?_
            refine V_aload_n dX8_listPairs_37 rfl rfl (V_aload_n dX8_listPairs_38 rfl rfl (V_iload_n dX8_listPairs_39 rfl rfl (V_iload dX8_listPairs_40 rfl ?_)))
            refine V_cV3i (M' := M_X4_lostLines) (d' := 2) dX8_listPairs_42 (Or.inl ml_X8_54) kb_X4_lostLines (by first | assumption | exact ⟨by decide, rfl⟩) (by first | decide | omega) (by simp [Value.category]) ⟨by decide, by decide⟩ ?_
            refine sp_lostLines hc he hB hX2 hD2 hDB (by omega) hi ⟨_, rfl, ?_⟩
            by_cases hg : 0 < K 6 i - kpt K td sd p i
            · have es : lsT K td sd (8 * p + (i + 1)) = lsT K td sd (8 * p + i) ++ [(10 * p + i, K 6 i - kpt K td sd p i, (K 6 i + 99) / 100)] := by
                rw [show 8 * p + (i + 1) = 8 * p + i + 1 by omega, lsT_succ, hmy, hit, if_pos ⟨hm, hg⟩]
              have hlen : (lsT K td sd (8 * p + i)).length < 32 := by
                have := lsT_len hB hKC td sd (n := 8 * p + (i + 1)) (by omega)
                rw [es, List.length_append] at this
                simp at this
                omega
              refine V_goto (tgt := 49) dX8_listPairs_45 (by decide) (V_istore_5 dX8_listPairs_49 (by decide) rfl (V_iload dX8_listPairs_51 rfl ?_))
              refine V_if_le_f (tgt := 117) dX8_listPairs_53 (by decide) (by rw [show (0 : Int32) = nI 0 from rfl, lit_le (by omega) (by omega)]; omega) ?_
              refine V_aload_n dX8_listPairs_56 rfl rfl ?_
              refine V_getI dX8_listPairs_57 fl_X8_38 (by first | assumption | exact ⟨by decide, rfl⟩) ?_
              refine V_bipush (v := 32) dX8_listPairs_60 (by decide) ?_
              refine V_icmp_ge_f (tgt := 117) dX8_listPairs_62 (by decide) (by rw [m2, show (32 : Int32) = nI 32 from rfl]; exact nI_ge hlen (by omega)) ?_
              refine V_aload_n dX8_listPairs_65 rfl rfl ?_
              refine V_getR dX8_listPairs_66 fl_X8_11 (by first | assumption | exact ⟨by decide, rfl⟩) (by first | assumption | rfl) ?_
              refine V_aload_n dX8_listPairs_69 rfl rfl ?_
              refine V_getI dX8_listPairs_70 fl_X8_38 (by first | assumption | exact ⟨by decide, rfl⟩) ?_
              refine V_bipush (v := 10) dX8_listPairs_73 (by decide) (V_iload_n dX8_listPairs_75 rfl rfl (V_imul dX8_listPairs_76 (V_iload dX8_listPairs_77 rfl (V_iadd dX8_listPairs_79 ?_))))
              refine V_ias dX8_listPairs_80 (by first | assumption | exact ⟨by decide, rfl⟩) (show ix _ (lsT K td sd (8 * p + i)).length 32 from ⟨m2, hlen⟩) ?_
              refine V_aload_n dX8_listPairs_81 rfl rfl ?_
              refine V_getR dX8_listPairs_82 fl_X8_15 (by first | assumption | exact ⟨by decide, rfl⟩) (by first | assumption | rfl) ?_
              refine V_aload_n dX8_listPairs_85 rfl rfl ?_
              refine V_getI dX8_listPairs_86 fl_X8_38 (by first | assumption | exact ⟨by decide, rfl⟩) ?_
              refine V_aload_n dX8_listPairs_89 rfl rfl (V_iload dX8_listPairs_90 rfl ?_)
              refine V_cV1i (M' := M_X3_hours) (d' := 1) dX8_listPairs_92 (Or.inl ml_X8_60) kb_X3_hours (by first | assumption | exact ⟨by decide, rfl⟩) (by first | decide | omega) (by simp [Value.category]) ⟨by decide, by decide⟩ ?_
              rw [show (10 : Int32) = nI 10 from rfl, pk_mul, nI_add]
              have hX3 : CoX (up2 I2 65 (lsT K td sd (8 * p + i)).length (nI (10 * p + i))) e K := hX2.of (fun x y q1 q2 => by rw [u2n (by omega)])
              refine sp_hours he hB hX3 hi ⟨_, rfl, ?_⟩
              refine V_ias dX8_listPairs_95 (by first | assumption | exact ⟨by decide, rfl⟩) (show ix _ (lsT K td sd (8 * p + i)).length 32 from ⟨by rw [u2n (by omega)]; exact m2, hlen⟩) ?_
              refine V_aload_n dX8_listPairs_96 rfl rfl ?_
              refine V_getR dX8_listPairs_97 fl_X8_18 (by first | assumption | exact ⟨by decide, rfl⟩) (by first | assumption | rfl) ?_
              refine V_aload_n dX8_listPairs_100 rfl rfl ?_
              refine V_getI dX8_listPairs_101 fl_X8_38 (by first | assumption | exact ⟨by decide, rfl⟩) ?_
              refine V_iload dX8_listPairs_104 rfl ?_
              refine V_ias dX8_listPairs_106 (by first | assumption | exact ⟨by decide, rfl⟩) (show ix _ (lsT K td sd (8 * p + i)).length 32 from ⟨by rw [u2n (by omega), u2n (by omega)]; exact m2, hlen⟩) ?_
              refine V_aload_n dX8_listPairs_107 rfl rfl (V_dup dX8_listPairs_108 rfl ?_)
              refine V_getI dX8_listPairs_109 fl_X8_38 (by first | assumption | exact ⟨by decide, rfl⟩) ?_
              refine V_iconst (v := 1) dX8_listPairs_112 (by decide) (V_iadd dX8_listPairs_113 ?_)
              refine V_putI dX8_listPairs_114 fl_X8_38 (by first | assumption | exact ⟨by decide, rfl⟩) ?_
              refine V_iinc_4 (w := 1) dX8_listPairs_117 (by decide) (by decide) rfl (V_goto (tgt := 18) dX8_listPairs_120 (by decide) ?_)
              rw [nI_1, u2n (by omega), u2n (by omega), u2n (by omega), m2, nI_1]
              refine ih2 _ _ (fun x y h1 h2 h3 h4 => by rw [u2n (by omega), u2n (by omega), u2n (by omega), u2n (by omega)]; exact m1 x y h1 h2 h3 h4) (by rw [u2e, es, List.length_append]; rfl) (fun k x hk => ?_)
              rw [es] at hk
              rcases get_app hk with ⟨k1, k2⟩ | ⟨k1, k2⟩
              · obtain ⟨z1, z2, z3⟩ := m3 k x k2
                refine ⟨?_, ?_, ?_⟩
                · rw [u2n (by omega), u2n (by omega), u2n (by omega), u2n (by omega)]; exact z1
                · rw [u2n (by omega), u2n (by omega), u2n (by omega), u2n (by omega)]; exact z2
                · rw [u2n (by omega), u2n (by omega), u2n (by omega), u2n (by omega)]; exact z3
              · subst k1 k2
                refine ⟨?_, ?_, ?_⟩
                · rw [u2n (by omega), u2n (by omega), u2n (by omega), u2e]
                · rw [u2n (by omega), u2n (by omega), u2e]
                · rw [u2n (by omega), u2e]
            · refine V_goto (tgt := 49) dX8_listPairs_45 (by decide) (V_istore_5 dX8_listPairs_49 (by decide) rfl (V_iload dX8_listPairs_51 rfl ?_))
              refine V_if_le_t (tgt := 117) dX8_listPairs_53 (by decide) (by rw [show (0 : Int32) = nI 0 from rfl, lit_le (by omega) (by omega)]; omega) ?_
              exact no _ (fun z => hg z.2)
      exact key2 0 (Nat.zero_le _) I1 _ g1 g2 g3
  refine key 0 (Nat.zero_le _) _ _ _ (fun x y h1 h2 h3 h4 => by rw [u2n h1]) (by rw [u2e]; rfl) (fun k x h => by simp [lsT, lsM] at h)
variable {L : List Itm}
theorem sp_worthWith {d k h hr : Nat} {x : Itm} (hb : LB L) (hl : L.length ≤ 32) (hP : PRS I L) (hW : WRT I L (k + 1) hr) (hk : L[k]? = some x) (hh : h ≤ hr) (h99 : hr ≤ 99) (Kk : Post (some (.int (if x.2.2 ≤ h then nI (128 * x.2.1 - x.2.2 + wL (L.drop (k + 1)) (h - x.2.2)) else -1))) NC I J (RR co dr cc a1 a2)) : Cal E d M_X8_worthWith [.ref 64, .int (nI k), .int (nI h)] NC I J (RR co dr cc a1 a2) Post := by
  have hkl := get_lt hk
  obtain ⟨p1, p2, p3⟩ := hP k x hk
  have hx := hb.at hk
  refine Cal_of kn_X8_worthWith rfl (Nat.le_of_ble_eq_true rfl) ?_
  by_cases hle : x.2.2 ≤ h
  · refine V_iload_n dX8_worthWith_0 rfl rfl (V_aload_n dX8_worthWith_1 rfl rfl ?_)
    refine V_getR dX8_worthWith_2 fl_X8_15 (by first | assumption | exact ⟨by decide, rfl⟩) (by first | assumption | rfl) ?_
    refine V_iload_n dX8_worthWith_5 rfl rfl ?_
    refine V_ial dX8_worthWith_6 (by first | assumption | exact ⟨by decide, rfl⟩) (show ix _ k 32 from ⟨rfl, by omega⟩) ?_
    refine V_isub dX8_worthWith_7 (V_istore_3 dX8_worthWith_8 (by decide) rfl (V_iload_n dX8_worthWith_9 rfl rfl ?_))
    refine V_if_ge_t (tgt := 15) dX8_worthWith_10 (by decide) (by rw [p2, pk_sub hle, show (0 : Int32) = nI 0 from rfl, lit_le (by omega) (by omega)]; omega) ?_
    refine V_aload_n dX8_worthWith_15 rfl rfl ?_
    refine V_getR dX8_worthWith_16 fl_X8_18 (by first | assumption | exact ⟨by decide, rfl⟩) (by first | assumption | rfl) ?_
    refine V_iload_n dX8_worthWith_19 rfl rfl ?_
    refine V_ial dX8_worthWith_20 (by first | assumption | exact ⟨by decide, rfl⟩) (show ix _ k 32 from ⟨rfl, by omega⟩) ?_
    refine V_sipush (v := 128) dX8_worthWith_21 (by decide) (V_imul dX8_worthWith_24 (V_aload_n dX8_worthWith_25 rfl rfl ?_))
    refine V_getR dX8_worthWith_26 fl_X8_15 (by first | assumption | exact ⟨by decide, rfl⟩) (by first | assumption | rfl) ?_
    refine V_iload_n dX8_worthWith_29 rfl rfl ?_
    refine V_ial dX8_worthWith_30 (by first | assumption | exact ⟨by decide, rfl⟩) (show ix _ k 32 from ⟨rfl, by omega⟩) ?_
    refine V_isub dX8_worthWith_31 (V_aload_n dX8_worthWith_32 rfl rfl ?_)
    refine V_getR dX8_worthWith_33 fl_X8_21 (by first | assumption | exact ⟨by decide, rfl⟩) (by first | assumption | rfl) ?_
    refine V_iload_n dX8_worthWith_36 rfl rfl (V_iconst (v := 1) dX8_worthWith_37 (by decide) (V_iadd dX8_worthWith_38 (V_bipush (v := 100) dX8_worthWith_39 (by decide) (V_imul dX8_worthWith_41 (V_iload_n dX8_worthWith_42 rfl rfl ?_)))))
    refine V_iadd dX8_worthWith_43 ?_
    refine V_ial dX8_worthWith_44 (by first | assumption | exact ⟨by decide, rfl⟩) (show ix _ (100 * (k + 1) + (h - x.2.2)) 3300 from ⟨by rw [p2, pk_sub hle, nI_1, show (100 : Int32) = nI 100 from rfl, pk_mul, nI_add, Nat.mul_comm], by omega⟩) ?_
    refine V_iadd dX8_worthWith_45 ?_
    refine V_ireturn dX8_worthWith_46 rfl rfl rfl (by decide) (by decide) ?_
    rw [p2, p3, hW (k + 1) (h - x.2.2) (Nat.le_refl _) (by omega) (by omega), show (128 : Int32) = nI 128 from rfl, pk_mul, pk_sub (by omega), nI_add, Nat.mul_comm x.2.1 128]
    rw [if_pos hle] at Kk
    exact Kk
  · refine V_iload_n dX8_worthWith_0 rfl rfl (V_aload_n dX8_worthWith_1 rfl rfl ?_)
    refine V_getR dX8_worthWith_2 fl_X8_15 (by first | assumption | exact ⟨by decide, rfl⟩) (by first | assumption | rfl) ?_
    refine V_iload_n dX8_worthWith_5 rfl rfl ?_
    refine V_ial dX8_worthWith_6 (by first | assumption | exact ⟨by decide, rfl⟩) (show ix _ k 32 from ⟨rfl, by omega⟩) ?_
    refine V_isub dX8_worthWith_7 (V_istore_3 dX8_worthWith_8 (by decide) rfl (V_iload_n dX8_worthWith_9 rfl rfl ?_))
    refine V_if_ge_f (tgt := 15) dX8_worthWith_10 (by decide) (by rw [p2, Int32.le_iff_toInt_le, pk_sub_toInt (by omega) (by omega)]; simp; omega) ?_
    refine V_iconst (v := (-1)) dX8_worthWith_13 (by decide) ?_
    refine V_ireturn dX8_worthWith_14 rfl rfl rfl (by decide) (by decide) ?_
    rw [if_neg hle] at Kk
    exact Kk
end
