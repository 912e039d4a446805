/-! The timetable: weighed and chosen -/
theorem m1_nI (k : Nat) : nI (k + 1) - 1 = nI k := by
  have : nI (k + 1) - nI 1 = nI (k + 1 - 1) := pk_sub (by omega)
  exact this
theorem add_m1 (x : Int32) : x + (-1) = x - 1 := (Int32.sub_eq_add_neg x 1).symm
theorem wL_max {x : Itm} {l : List Itm} {h : Nat} (hb : 0 < x.2.1 ∧ x.2.1 ≤ 999 ∧ 1 ≤ x.2.2 ∧ x.2.2 ≤ 10) (h1 : wL l h ≤ 4091904) (h2 : wL l (h - x.2.2) ≤ 4091904) : (if nI (wL l h) < (if x.2.2 ≤ h then nI (128 * x.2.1 - x.2.2 + wL l (h - x.2.2)) else -1) then (if x.2.2 ≤ h then nI (128 * x.2.1 - x.2.2 + wL l (h - x.2.2)) else -1) else nI (wL l h)) = nI (wL (x :: l) h) := by
  have ew : wL (x :: l) h = if x.2.2 ≤ h ∧ wL l h ≤ 128 * x.2.1 - x.2.2 + wL l (h - x.2.2) then 128 * x.2.1 - x.2.2 + wL l (h - x.2.2) else wL l h := rfl
  rw [ew]
  generalize wL l h = a at *
  generalize wL l (h - x.2.2) = b at *
  by_cases hle : x.2.2 ≤ h
  · rw [if_pos hle]
    by_cases he : a < 128 * x.2.1 - x.2.2 + b
    · rw [if_pos ((lit_lt (by omega) (by omega)).mpr he), if_pos ⟨hle, Nat.le_of_lt he⟩]
    · rw [if_neg (fun z => he ((lit_lt (by omega) (by omega)).mp z))]
      by_cases hq : a = 128 * x.2.1 - x.2.2 + b
      · rw [if_pos ⟨hle, by omega⟩, ← hq]
      · rw [if_neg (fun z => by omega)]
  · rw [if_neg hle]
    have hn : ¬ (nI a < -1) := by
      intro z
      have := Int32.lt_iff_toInt_lt.mp z
      rw [nI_toInt (by omega)] at this
      have e : (-1 : Int32).toInt = -1 := by decide
      omega
    rw [if_neg hn, if_neg (fun z => hle z.1)]
section
variable {E : En} {I : TI} {J : TJ} {co dr : Nat} {cc a1 a2 : Option Nat} {Post : PT} {c e : Nat} {K : KT} {td : Nat} {sd : Nat → Nat} {ow : Nat → Int32} {L : List Itm}
theorem sp_weighPairs {d hr : Nat} (hd : 3 ≤ d) (hb : LB L) (hl : L.length ≤ 32) (hP : PRS I L) (h3 : I 64 3 = nI L.length) (h99 : hr ≤ 99) (Kk : ∀ I', (∀ x y, x ≠ 68 → I' x y = I x y) → WRT I' L 0 hr → Post none NC I' J (RR co dr cc a1 a2)) : Cal E d M_X8_weighPairs [.ref 64, .int (nI hr)] NC I J (RR co dr cc a1 a2) Post := by
  refine Cal_of kn_X8_weighPairs rfl (Nat.le_of_ble_eq_true rfl) ?_
  refine V_aload_n dX8_weighPairs_0 rfl rfl ?_
  refine V_getR dX8_weighPairs_1 fl_X8_21 (by first | assumption | exact ⟨by decide, rfl⟩) (by first | assumption | rfl) ?_
  refine V_aload_n dX8_weighPairs_4 rfl rfl ?_
  refine V_getI dX8_weighPairs_5 fl_X8_38 (by first | assumption | exact ⟨by decide, rfl⟩) ?_
  refine V_bipush (v := 100) dX8_weighPairs_8 (by decide) (V_imul dX8_weighPairs_10 (V_aload_n dX8_weighPairs_11 rfl rfl ?_))
  refine V_getI dX8_weighPairs_12 fl_X8_38 (by first | assumption | exact ⟨by decide, rfl⟩) ?_
  refine V_bipush (v := 100) dX8_weighPairs_15 (by decide) (V_imul dX8_weighPairs_17 (V_bipush (v := 100) dX8_weighPairs_18 (by decide) (V_iadd dX8_weighPairs_20 (V_iconst (v := 0) dX8_weighPairs_21 (by decide) ?_))))
  refine V_cS4v (M' := M_J7_fill_fda19) (d' := 2) dX8_weighPairs_22 (Or.inl ml_X8_64) kb_J7_fill_fda19 (by first | decide | omega) (by simp [Value.category]) ⟨by decide, by decide⟩ ?_
  rw [h3, show (100 : Int32) = nI 100 from rfl, pk_mul, nI_add]
  refine sp_fill4 (k := 68) (len := 3300) (f := L.length * 100) (t := L.length * 100 + 100) ⟨by decide, rfl⟩ (by omega) (by omega) (fun I1 g1 => ⟨rfl, ?_⟩)
  have q3 : ∀ I2 : TI, (∀ x y, x ≠ 68 → I2 x y = I x y) → I2 64 3 = nI L.length := fun I2 h => by rw [h _ _ (by omega)]; exact h3
  have fr1 : ∀ x y, x ≠ 68 → I1 x y = I x y := fun x y h => by rw [g1, if_neg (fun z => h z.1)]
  refine V_aload_n dX8_weighPairs_25 rfl rfl ?_
  refine V_getI dX8_weighPairs_26 fl_X8_38 (by first | assumption | exact ⟨by decide, rfl⟩) ?_
  refine V_iconst (v := 1) dX8_weighPairs_29 (by decide) (V_isub dX8_weighPairs_30 (V_istore_2 dX8_weighPairs_31 (by decide) rfl ?_))
  rw [q3 I1 fr1]
  have key : ∀ m, m ≤ L.length → ∀ (I2 : TI) (o3 o4 : Option Value), (∀ x y, x ≠ 68 → I2 x y = I x y) → WRT I2 L m hr → V E d M_X8_weighPairs Post 32 [some (.ref 64), some (.int (nI hr)), some (.int (nI m - 1)), o3, o4] [] NC 0 0 I2 J (RR co dr cc a1 a2) := by
    intro m
    induction m with
    | zero =>
      intro _ I2 o3 o4 n1 n2
      refine V_iload_n dX8_weighPairs_32 rfl rfl ?_
      refine V_if_lt_t (tgt := 92) dX8_weighPairs_33 (by decide) (by decide) ?_
      refine V_return dX8_weighPairs_92 rfl rfl (by decide) (by decide) ?_
      exact Kk I2 n1 n2
    | succ k ih =>
      intro hk I2 o3 o4 n1 n2
      obtain ⟨x, hx⟩ : ∃ x, L[k]? = some x := ⟨L[k], List.getElem?_eq_getElem (by omega)⟩
      have hxb := hb.at hx
      rw [m1_nI]
      refine V_iload_n dX8_weighPairs_32 rfl rfl ?_
      refine V_if_lt_f (tgt := 92) dX8_weighPairs_33 (by decide) ((nI_nn (by omega))) ?_
      refine V_iconst (v := 0) dX8_weighPairs_36 (by decide) (V_istore_3 dX8_weighPairs_37 (by decide) rfl ?_)
      have key2 : ∀ h, h ≤ hr + 1 → ∀ (I3 : TI) (o4 : Option Value), (∀ x y, x ≠ 68 → I3 x y = I x y) → WRT I3 L (k + 1) hr → (∀ h', h' < h → I3 68 (100 * k + h') = nI (wL (L.drop k) h')) → V E d M_X8_weighPairs Post 38 [some (.ref 64), some (.int (nI hr)), some (.int (nI k)), some (.int (nI h)), o4] [] NC 0 0 I3 J (RR co dr cc a1 a2) := by
        refine loop_up _ ?_ ?_
        · intro I3 o4 y1 y2 y3
          refine V_iload_n dX8_weighPairs_38 rfl rfl (V_iload_n dX8_weighPairs_39 rfl rfl ?_)
          refine V_icmp_gt_t (tgt := 86) dX8_weighPairs_40 (by decide) (by rw [lit_lt (by omega) (by omega)]; omega) ?_
          refine V_iinc_2 (w := (-1)) dX8_weighPairs_86 (by decide) (by decide) rfl (V_goto (tgt := 32) dX8_weighPairs_89 (by decide) ?_)
          rw [add_m1]
          refine ih (by omega) I3 _ _ y1 (fun k' h' z1 z2 z3 => ?_)
          by_cases hkk : k' = k
          · subst hkk; exact y3 h' (by omega)
          · exact y2 k' h' (by omega) z2 z3
        · intro h hh ih2 I3 o4 y1 y2 y3
          have hP3 : PRS I3 L := fun k x hkx => by
            rw [y1 _ _ (by omega), y1 _ _ (by omega), y1 _ _ (by omega)]; exact hP k x hkx
          refine V_iload_n dX8_weighPairs_38 rfl rfl (V_iload_n dX8_weighPairs_39 rfl rfl ?_)
          refine V_icmp_gt_f (tgt := 86) dX8_weighPairs_40 (by decide) (by rw [lit_lt (by omega) (by omega)]; omega) ?_
          refine V_aload_n dX8_weighPairs_43 rfl rfl ?_
          refine V_getR dX8_weighPairs_44 fl_X8_21 (by first | assumption | exact ⟨by decide, rfl⟩) (by first | assumption | rfl) ?_
          refine V_iload_n dX8_weighPairs_47 rfl rfl (V_iconst (v := 1) dX8_weighPairs_48 (by decide) (V_iadd dX8_weighPairs_49 (V_bipush (v := 100) dX8_weighPairs_50 (by decide) (V_imul dX8_weighPairs_52 (V_iload_n dX8_weighPairs_53 rfl rfl ?_)))))
          refine V_iadd dX8_weighPairs_54 ?_
          refine V_ial dX8_weighPairs_55 (by first | assumption | exact ⟨by decide, rfl⟩) (show ix _ (100 * (k + 1) + h) 3300 from ⟨by rw [nI_1, show (100 : Int32) = nI 100 from rfl, pk_mul, nI_add, Nat.mul_comm], by omega⟩) ?_
          refine V_istore_4 dX8_weighPairs_56 (by decide) rfl (V_aload_n dX8_weighPairs_58 rfl rfl ?_)
          refine V_getR dX8_weighPairs_59 fl_X8_21 (by first | assumption | exact ⟨by decide, rfl⟩) (by first | assumption | rfl) ?_
          refine V_iload_n dX8_weighPairs_62 rfl rfl (V_bipush (v := 100) dX8_weighPairs_63 (by decide) (V_imul dX8_weighPairs_65 (V_iload_n dX8_weighPairs_66 rfl rfl (V_iadd dX8_weighPairs_67 (V_iload dX8_weighPairs_68 rfl ?_)))))
          refine V_aload_n dX8_weighPairs_70 rfl rfl (V_iload_n dX8_weighPairs_71 rfl rfl (V_iload_n dX8_weighPairs_72 rfl rfl ?_))
          refine V_cV2i (M' := M_X8_worthWith) (d' := 1) dX8_weighPairs_73 (Or.inl ml_X8_70) kb_X8_worthWith (by first | assumption | exact ⟨by decide, rfl⟩) (by first | decide | omega) (by simp [Value.category]) ⟨by decide, by decide⟩ ?_
          refine sp_worthWith hb hl hP3 y2 hx (by omega) h99 ⟨_, rfl, ?_⟩
          refine V_max dX8_weighPairs_76 ml_X8_74 (by first | decide | omega) (by simp [Value.category]) (by decide) (by decide) ?_
          refine V_ias dX8_weighPairs_79 (by first | assumption | exact ⟨by decide, rfl⟩) (show ix _ (100 * k + h) 3300 from ⟨by rw [show (100 : Int32) = nI 100 from rfl, pk_mul, nI_add, Nat.mul_comm], by omega⟩) ?_
          refine V_iinc_3 (w := 1) dX8_weighPairs_80 (by decide) (by decide) rfl (V_goto (tgt := 38) dX8_weighPairs_83 (by decide) ?_)
          rw [nI_1, y2 (k + 1) h (Nat.le_refl _) (by omega) (by omega), wL_max hxb (wL_small hb hl _ _) (wL_small hb hl _ _), ← drop_at hx]
          refine ih2 _ _ (fun x y hq => by rw [u2n (by omega)]; exact y1 x y hq) (fun k' h' z1 z2 z3 => ?_) (fun h' hh' => ?_)
          · rw [u2n (by omega)]; exact y2 k' h' z1 z2 z3
          · by_cases hq : h' = h
            · subst hq; rw [u2e]
            · rw [u2n (by omega)]; exact y3 h' (by omega)
      exact key2 0 (Nat.zero_le _) I2 _ n1 n2 (fun h' z => absurd z (by omega))
  refine key L.length (Nat.le_refl _) I1 _ _ fr1 (fun k h z1 z2 z3 => ?_)
  have hk : k = L.length := by omega
  subst hk
  rw [g1, if_pos ⟨rfl, by omega, by omega⟩, List.drop_length]; rfl
theorem chL_hs : ∀ (l : List Itm) (h : Nat), hs (chL l h) ≤ h
  | [], h => Nat.zero_le _
  | x :: l, h => by
    unfold chL
    split
    · rename_i z
      have := chL_hs l (h - x.2.2)
      show x.2.2 + hs (chL l (h - x.2.2)) ≤ h
      omega
    · exact chL_hs l h
theorem chL_len : ∀ (l : List Itm) (h : Nat), (chL l h).length ≤ l.length
  | [], h => Nat.le_refl _
  | x :: l, h => by
    unfold chL
    split
    · have := chL_len l (h - x.2.2)
      simp; omega
    · have := chL_len l h
      simp; omega
/-- what is chosen lies: how many, which, the lines, the hours -/
def CHS (I : TI) (C : List Itm) : Prop := I 64 6 = nI C.length ∧ (∀ j x, C[j]? = some x → I 69 j = nI x.1) ∧ I 64 7 = nI (gs C) ∧ I 64 8 = nI (hs C)
theorem sp_choosePairs {d hr : Nat} (hd : 2 ≤ d) (hb : LB L) (hl : L.length ≤ 32) (hP : PRS I L) (h3 : I 64 3 = nI L.length) (hW : WRT I L 0 hr) (h99 : hr ≤ 99) (Kk : ∀ I', (∀ x y, x ≠ 69 → (x ≠ 64 ∨ (y ≠ 6 ∧ y ≠ 7 ∧ y ≠ 8)) → I' x y = I x y) → CHS I' (chL L hr) → Post none NC I' J (RR co dr cc a1 a2)) : Cal E d M_X8_choosePairs [.ref 64, .int (nI hr)] NC I J (RR co dr cc a1 a2) Post := by
  refine Cal_of kn_X8_choosePairs rfl (Nat.le_of_ble_eq_true rfl) ?_
  refine V_aload_n dX8_choosePairs_0 rfl rfl (V_iconst (v := 0) dX8_choosePairs_1 (by decide) ?_)
  refine V_putI dX8_choosePairs_2 fl_X8_79 (by first | assumption | exact ⟨by decide, rfl⟩) ?_
  refine V_aload_n dX8_choosePairs_5 rfl rfl (V_iconst (v := 0) dX8_choosePairs_6 (by decide) ?_)
  refine V_putI dX8_choosePairs_7 fl_X8_82 (by first | assumption | exact ⟨by decide, rfl⟩) ?_
  refine V_aload_n dX8_choosePairs_10 rfl rfl (V_iconst (v := 0) dX8_choosePairs_11 (by decide) ?_)
  refine V_putI dX8_choosePairs_12 fl_X8_85 (by first | assumption | exact ⟨by decide, rfl⟩) ?_
  refine V_iconst (v := 0) dX8_choosePairs_15 (by decide) (V_istore_2 dX8_choosePairs_16 (by decide) rfl ?_)
  have key : ∀ k, k ≤ L.length → ∀ (I1 : TI) (C : List Itm) (o3 : Option Value), (∀ x y, x ≠ 69 → (x ≠ 64 ∨ (y ≠ 6 ∧ y ≠ 7 ∧ y ≠ 8)) → I1 x y = I x y) → CHS I1 C → chL L hr = C ++ chL (L.drop k) (hr - hs C) → hs C ≤ hr → C.length ≤ k → V E d M_X8_choosePairs Post 17 [some (.ref 64), some (.int (nI hr)), some (.int (nI k)), o3] [] NC 0 0 I1 J (RR co dr cc a1 a2) := by
    refine loop_up _ ?_ ?_
    · intro I1 C o3 g1 g2 g3 g4 g5
      refine V_iload_n dX8_choosePairs_17 rfl rfl (V_aload_n dX8_choosePairs_18 rfl rfl ?_)
      refine V_getI dX8_choosePairs_19 fl_X8_38 (by first | assumption | exact ⟨by decide, rfl⟩) ?_
      refine V_icmp_ge_t (tgt := 115) dX8_choosePairs_22 (by decide) (by rw [g1 _ _ (by omega) (by omega), h3]; exact nI_le (Nat.le_refl _) (by omega)) ?_
      refine V_return dX8_choosePairs_115 rfl rfl (by decide) (by decide) ?_
      rw [List.drop_length] at g3
      simp [chL] at g3
      rw [← g3] at g2
      exact Kk I1 g1 g2
    · intro k hk ih I1 C o3 g1 g2 g3 g4 g5
      obtain ⟨x, hx⟩ : ∃ x, L[k]? = some x := ⟨L[k], List.getElem?_eq_getElem (by omega)⟩
      have hxb := hb.at hx
      have hP1 : PRS I1 L := fun k x hkx => by
        rw [g1 _ _ (by omega) (by omega), g1 _ _ (by omega) (by omega), g1 _ _ (by omega) (by omega)]; exact hP k x hkx
      have hW1 : WRT I1 L (k + 1) hr := fun k' h' z1 z2 z3 => by rw [g1 _ _ (by omega) (by omega)]; exact hW k' h' (by omega) z2 z3
      obtain ⟨p1, p2, p3⟩ := hP1 k x hx
      obtain ⟨c6, c9, c7, c8⟩ := g2
      have w1 := wL_small hb hl (k + 1) (hr - hs C)
      have w2 := wL_small hb hl (k + 1) (hr - hs C - x.2.2)
      rw [drop_at hx] at g3
      refine V_iload_n dX8_choosePairs_17 rfl rfl (V_aload_n dX8_choosePairs_18 rfl rfl ?_)
      refine V_getI dX8_choosePairs_19 fl_X8_38 (by first | assumption | exact ⟨by decide, rfl⟩) ?_
      refine V_icmp_ge_f (tgt := 115) dX8_choosePairs_22 (by decide) (by rw [g1 _ _ (by omega) (by omega), h3]; exact nI_ge hk (by omega)) ?_
      refine V_iload_n dX8_choosePairs_25 rfl rfl (V_aload_n dX8_choosePairs_26 rfl rfl ?_)
      refine V_getI dX8_choosePairs_27 fl_X8_85 (by first | assumption | exact ⟨by decide, rfl⟩) ?_
      refine V_isub dX8_choosePairs_30 (V_istore_3 dX8_choosePairs_31 (by decide) rfl (V_aload_n dX8_choosePairs_32 rfl rfl (V_iload_n dX8_choosePairs_33 rfl rfl (V_iload_n dX8_choosePairs_34 rfl rfl ?_))))
      refine V_cV2i (M' := M_X8_worthWith) (d' := 1) dX8_choosePairs_35 (Or.inl ml_X8_70) kb_X8_worthWith (by first | assumption | exact ⟨by decide, rfl⟩) (by first | decide | omega) (by simp [Value.category]) ⟨by decide, by decide⟩ ?_
      rw [c8, pk_sub g4]
      refine sp_worthWith hb hl hP1 hW1 hx (by omega) h99 ⟨_, rfl, ?_⟩
      have hidx : ix (((nI k + 1) * 100) + nI (hr - hs C)) (100 * (k + 1) + (hr - hs C)) 3300 := ⟨by rw [nI_1, show (100 : Int32) = nI 100 from rfl, pk_mul, nI_add, Nat.mul_comm], by omega⟩
      have hval := hW1 (k + 1) (hr - hs C) (Nat.le_refl _) (by omega) (by omega)
      by_cases ht : x.2.2 ≤ hr - hs C ∧ wL (L.drop (k + 1)) (hr - hs C) ≤ 128 * x.2.1 - x.2.2 + wL (L.drop (k + 1)) (hr - hs C - x.2.2)
      · rw [if_pos ht.1]
        refine V_aload_n dX8_choosePairs_38 rfl rfl ?_
        refine V_getR dX8_choosePairs_39 fl_X8_21 (by first | assumption | exact ⟨by decide, rfl⟩) (by first | assumption | rfl) ?_
        refine V_iload_n dX8_choosePairs_42 rfl rfl (V_iconst (v := 1) dX8_choosePairs_43 (by decide) (V_iadd dX8_choosePairs_44 (V_bipush (v := 100) dX8_choosePairs_45 (by decide) (V_imul dX8_choosePairs_47 (V_iload_n dX8_choosePairs_48 rfl rfl ?_)))))
        refine V_iadd dX8_choosePairs_49 ?_
        refine V_ial dX8_choosePairs_50 (by first | assumption | exact ⟨by decide, rfl⟩) hidx ?_
        refine V_icmp_lt_f (tgt := 109) dX8_choosePairs_51 (by decide) (by rw [hval]; exact fun z => absurd ((lit_lt (by omega) (by omega)).mp z) (by omega)) ?_
        refine V_aload_n dX8_choosePairs_54 rfl rfl ?_
        refine V_getR dX8_choosePairs_55 fl_X8_24 (by first | assumption | exact ⟨by decide, rfl⟩) (by first | assumption | rfl) ?_
        refine V_aload_n dX8_choosePairs_58 rfl rfl ?_
        refine V_getI dX8_choosePairs_59 fl_X8_79 (by first | assumption | exact ⟨by decide, rfl⟩) ?_
        refine V_aload_n dX8_choosePairs_62 rfl rfl ?_
        refine V_getR dX8_choosePairs_63 fl_X8_11 (by first | assumption | exact ⟨by decide, rfl⟩) (by first | assumption | rfl) ?_
        refine V_iload_n dX8_choosePairs_66 rfl rfl ?_
        refine V_ial dX8_choosePairs_67 (by first | assumption | exact ⟨by decide, rfl⟩) (show ix _ k 32 from ⟨rfl, by omega⟩) ?_
        refine V_ias dX8_choosePairs_68 (by first | assumption | exact ⟨by decide, rfl⟩) (show ix _ C.length 32 from ⟨c6, by omega⟩) ?_
        refine V_aload_n dX8_choosePairs_69 rfl rfl (V_dup dX8_choosePairs_70 rfl ?_)
        refine V_getI dX8_choosePairs_71 fl_X8_79 (by first | assumption | exact ⟨by decide, rfl⟩) ?_
        refine V_iconst (v := 1) dX8_choosePairs_74 (by decide) (V_iadd dX8_choosePairs_75 ?_)
        refine V_putI dX8_choosePairs_76 fl_X8_79 (by first | assumption | exact ⟨by decide, rfl⟩) ?_
        refine V_aload_n dX8_choosePairs_79 rfl rfl (V_dup dX8_choosePairs_80 rfl ?_)
        refine V_getI dX8_choosePairs_81 fl_X8_82 (by first | assumption | exact ⟨by decide, rfl⟩) ?_
        refine V_aload_n dX8_choosePairs_84 rfl rfl ?_
        refine V_getR dX8_choosePairs_85 fl_X8_18 (by first | assumption | exact ⟨by decide, rfl⟩) (by first | assumption | rfl) ?_
        refine V_iload_n dX8_choosePairs_88 rfl rfl ?_
        refine V_ial dX8_choosePairs_89 (by first | assumption | exact ⟨by decide, rfl⟩) (show ix _ k 32 from ⟨rfl, by omega⟩) ?_
        refine V_iadd dX8_choosePairs_90 ?_
        refine V_putI dX8_choosePairs_91 fl_X8_82 (by first | assumption | exact ⟨by decide, rfl⟩) ?_
        refine V_aload_n dX8_choosePairs_94 rfl rfl (V_dup dX8_choosePairs_95 rfl ?_)
        refine V_getI dX8_choosePairs_96 fl_X8_85 (by first | assumption | exact ⟨by decide, rfl⟩) ?_
        refine V_aload_n dX8_choosePairs_99 rfl rfl ?_
        refine V_getR dX8_choosePairs_100 fl_X8_15 (by first | assumption | exact ⟨by decide, rfl⟩) (by first | assumption | rfl) ?_
        refine V_iload_n dX8_choosePairs_103 rfl rfl ?_
        refine V_ial dX8_choosePairs_104 (by first | assumption | exact ⟨by decide, rfl⟩) (show ix _ k 32 from ⟨rfl, by omega⟩) ?_
        refine V_iadd dX8_choosePairs_105 ?_
        refine V_putI dX8_choosePairs_106 fl_X8_85 (by first | assumption | exact ⟨by decide, rfl⟩) ?_
        refine V_iinc_2 (w := 1) dX8_choosePairs_109 (by decide) (by decide) rfl (V_goto (tgt := 17) dX8_choosePairs_112 (by decide) ?_)
        have hap : chL (x :: L.drop (k + 1)) (hr - hs C) = x :: chL (L.drop (k + 1)) (hr - hs C - x.2.2) := by
          conv => lhs; unfold chL
          rw [if_pos ht]
        have hhs : hs (C ++ [x]) = hs C + x.2.2 := by rw [hs_app]; simp [hs]
        rw [nI_1]
        refine ih _ (C ++ [x]) _ (fun q y h1 h2 => by rw [u2n (by omega), u2n (by omega), u2n (by omega), u2n (by omega)]; exact g1 q y h1 h2) ⟨?_, fun j y hj => ?_, ?_, ?_⟩ ?_ (by rw [hhs]; omega) (by rw [List.length_append]; simp; omega)
        · rw [u2n (by omega), u2n (by omega), u2e, u2n (by omega), c6, nI_1, List.length_append]; rfl
        · rw [u2n (by omega), u2n (by omega), u2n (by omega)]
          rcases get_app hj with ⟨j1, j2⟩ | ⟨j1, j2⟩
          · rw [u2n (by omega)]; exact c9 j y j2
          · subst j1 j2; rw [u2e, p1]
        · rw [u2n (by omega), u2e, u2n (by omega), u2n (by omega), u2n (by omega), u2n (by omega), c7, p3, nI_add, gs_app]; simp [gs]
        · rw [u2e, u2n (by omega), u2n (by omega), u2n (by omega), u2n (by omega), u2n (by omega), u2n (by omega), c8, p2, nI_add, hhs]
        · rw [g3, hap, hhs, List.append_assoc, Nat.sub_sub]; rfl
      · have hap : chL (x :: L.drop (k + 1)) (hr - hs C) = chL (L.drop (k + 1)) (hr - hs C) := by
          conv => lhs; unfold chL
          rw [if_neg ht]
        have hlt : (if x.2.2 ≤ hr - hs C then nI (128 * x.2.1 - x.2.2 + wL (L.drop (k + 1)) (hr - hs C - x.2.2)) else -1) < nI (wL (L.drop (k + 1)) (hr - hs C)) := by
          by_cases hle : x.2.2 ≤ hr - hs C
          · rw [if_pos hle, lit_lt (by omega) (by omega)]
            exact Nat.lt_of_not_le (fun z => ht ⟨hle, z⟩)
          · rw [if_neg hle, Int32.lt_iff_toInt_lt, nI_toInt (by omega)]
            have e : (-1 : Int32).toInt = -1 := by decide
            omega
        refine V_aload_n dX8_choosePairs_38 rfl rfl ?_
        refine V_getR dX8_choosePairs_39 fl_X8_21 (by first | assumption | exact ⟨by decide, rfl⟩) (by first | assumption | rfl) ?_
        refine V_iload_n dX8_choosePairs_42 rfl rfl (V_iconst (v := 1) dX8_choosePairs_43 (by decide) (V_iadd dX8_choosePairs_44 (V_bipush (v := 100) dX8_choosePairs_45 (by decide) (V_imul dX8_choosePairs_47 (V_iload_n dX8_choosePairs_48 rfl rfl ?_)))))
        refine V_iadd dX8_choosePairs_49 ?_
        refine V_ial dX8_choosePairs_50 (by first | assumption | exact ⟨by decide, rfl⟩) hidx ?_
        refine V_icmp_lt_t (tgt := 109) dX8_choosePairs_51 (by decide) (by rw [hval]; exact hlt) ?_
        refine V_iinc_2 (w := 1) dX8_choosePairs_109 (by decide) (by decide) rfl (V_goto (tgt := 17) dX8_choosePairs_112 (by decide) ?_)
        rw [nI_1]
        exact ih I1 C _ g1 ⟨c6, c9, c7, c8⟩ (by rw [g3, hap]) g4 (by omega)
  refine key 0 (Nat.zero_le _) _ [] _ (fun x y h1 h2 => by rw [u2n (by omega), u2n (by omega), u2n (by omega)]) ⟨?_, fun j x h => by simp at h, ?_, ?_⟩ (by rfl) (Nat.zero_le _) (Nat.le_refl _)
  · rw [u2n (by omega), u2n (by omega), u2e]; rfl
  · rw [u2n (by omega), u2e]; rfl
  · rw [u2e]; rfl
theorem sp_plan {d hr : Nat} (hd : 4 ≤ d) (hc : c = 32 ∨ c = 35 ∨ c = 38) (he : e = 4 ∨ e = 18) (hB : KB K) (hKC : KC K) (hX : CoX I e K) (hS : SX I e K) (hD : DX I c td sd ow) (hDB : DB td sd) (h99 : hr ≤ 99) (Kk : ∀ I', (∀ x y, x < 64 ∨ 69 < x → I' x y = I x y) → CHS I' (chL (lsT K td sd (8 * K 0 0)) hr) → Post none NC I' J (RR co dr cc a1 a2)) : Cal E d M_X8_plan [.ref 64, .ref e, .ref c, .int (nI hr)] NC I J (RR co dr cc a1 a2) Post := by
  have hP := hB.1.1
  have hb := lsT_LB hB td sd (8 * K 0 0)
  have hl := lsT_len hB hKC td sd (n := 8 * K 0 0) (by omega)
  refine Cal_of kn_X8_plan rfl (Nat.le_of_ble_eq_true rfl) ?_
  refine V_aload_n dX8_plan_0 rfl rfl (V_aload_n dX8_plan_1 rfl rfl (V_aload_n dX8_plan_2 rfl rfl ?_))
  refine V_cV2v (M' := M_X8_listPairs) (d' := 3) dX8_plan_3 (Or.inl ml_X8_27) kb_X8_listPairs (by first | assumption | exact ⟨by decide, rfl⟩) (by first | decide | omega) (by simp [Value.category]) ⟨by decide, by decide⟩ ?_
  refine sp_listPairs (by omega) hc he hB hKC hX hS hD hDB (fun I1 g1 g2 g3 => ⟨rfl, ?_⟩)
  refine V_aload_n dX8_plan_6 rfl rfl (V_iload_n dX8_plan_7 rfl rfl ?_)
  refine V_cV1v (M' := M_X8_weighPairs) (d' := 3) dX8_plan_8 (Or.inl ml_X8_31) kb_X8_weighPairs (by first | assumption | exact ⟨by decide, rfl⟩) (by first | decide | omega) (by simp [Value.category]) ⟨by decide, by decide⟩ ?_
  refine sp_weighPairs (by omega) hb hl g3 g2 h99 (fun I2 m1 m2 => ⟨rfl, ?_⟩)
  refine V_aload_n dX8_plan_11 rfl rfl (V_iload_n dX8_plan_12 rfl rfl ?_)
  refine V_cV1v (M' := M_X8_choosePairs) (d' := 2) dX8_plan_13 (Or.inl ml_X8_35) kb_X8_choosePairs (by first | assumption | exact ⟨by decide, rfl⟩) (by first | decide | omega) (by simp [Value.category]) ⟨by decide, by decide⟩ ?_
  refine sp_choosePairs (by omega) hb hl (fun k x h => by rw [m1 _ _ (by omega), m1 _ _ (by omega), m1 _ _ (by omega)]; exact g3 k x h) (by rw [m1 _ _ (by omega)]; exact g2) m2 h99 (fun I3 n1 n2 => ⟨rfl, ?_⟩)
  refine V_return dX8_plan_16 rfl rfl (by decide) (by decide) ?_
  exact Kk I3 (fun x y h => by rw [n1 x y (by omega) (by omega), m1 x y (by omega), g1 x y (by omega) (by omega) (by omega) (by omega)]) n2
end
