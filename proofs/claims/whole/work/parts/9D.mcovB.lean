/-! Calls of the reference: engaged, fewest -/
section
variable {E : En} {I : TI} {J : TJ} {co dr : Nat} {cc a1 a2 : Option Nat} {Post : PT} {K : KT} {D : Di} {d : Nat}
theorem mr_isCover (hB : KB K) (hM : MB I K) {t : Nat} (h1 : t / 8 < K 0 0) (h2 : t % 8 < K 0 1) (Kk : Post (some (.int (b2i (cva K t)))) NC I J (RR co dr cc a1 a2)) : Cal E 2 M_X11_isCover [.ref 70, .int (nI (t / 8)), .int (nI (t % 8))] NC I J (RR co dr cc a1 a2) Post := by
  have hP := hB.1.1
  have hQ := hB.1.2.1
  have hlt : t < 8 * K 0 0 := by omega
  have ev : cva K t = (skl K (t / 8) (t % 8) && (!decide (K 7 (t % 8) = t / 8 + 1) && !(K 3 (t / 8)).testBit (t % 8))) := by
    unfold cva cvb may
    rw [decide_eq_true hlt, decide_eq_true h2]
    cases skl K (t / 8) (t % 8) <;> cases decide (K 7 (t % 8) = t / 8 + 1) <;> cases (K 3 (t / 8)).testBit (t % 8) <;> rfl
  rw [ev] at Kk
  generalize t / 8 = p at *
  generalize t % 8 = i at *
  have hw := (hB.2.2.2.1 i h2).2.1
  have ho := hB.2.2.2.2.1 i
  have hla : K 2 p &&& K 5 i < 2 ^ 4 := Nat.and_lt_two_pow _ (by omega)
  refine Cal_of kn_X11_isCover rfl (Nat.le_of_ble_eq_true rfl) ?_
  by_cases hz : andn (K 5 i) (K 2 p) = 0
  · rw [show skl K p i = true by unfold skl; simp [hz], Bool.true_and] at Kk
    refine V_aload_n dX11_isCover_0 rfl rfl ?_
    refine V_getR dX11_isCover_1 fl_X11_19 (by first | assumption | exact ⟨by decide, rfl⟩) (by first | assumption | rfl) ?_
    refine V_iload_n dX11_isCover_4 rfl rfl ?_
    refine V_ial dX11_isCover_5 (by first | assumption | exact ⟨by decide, rfl⟩) (show ix _ p 20 from ⟨rfl, by omega⟩) ?_
    refine V_aload_n dX11_isCover_6 rfl rfl ?_
    refine V_getR dX11_isCover_7 fl_X11_28 (by first | assumption | exact ⟨by decide, rfl⟩) (by first | assumption | rfl) ?_
    refine V_iload_n dX11_isCover_10 rfl rfl ?_
    refine V_ial dX11_isCover_11 (by first | assumption | exact ⟨by decide, rfl⟩) (show ix _ i 16 from ⟨rfl, by omega⟩) ?_
    refine V_iand dX11_isCover_12 (V_aload_n dX11_isCover_13 rfl rfl ?_)
    refine V_getR dX11_isCover_14 fl_X11_28 (by first | assumption | exact ⟨by decide, rfl⟩) (by first | assumption | rfl) ?_
    refine V_iload_n dX11_isCover_17 rfl rfl ?_
    refine V_ial dX11_isCover_18 (by first | assumption | exact ⟨by decide, rfl⟩) (show ix _ i 16 from ⟨rfl, by omega⟩) ?_
    refine V_icmp_ne_f (tgt := 49) dX11_isCover_19 (by decide) (by rw [hM.skl h1, hM.wnt h2, and_nI, and_eq_andn.mpr hz]) ?_
    refine V_aload_n dX11_isCover_22 rfl rfl ?_
    refine V_getR dX11_isCover_23 fl_X11_52 (by first | assumption | exact ⟨by decide, rfl⟩) (by first | assumption | rfl) ?_
    refine V_iload_n dX11_isCover_26 rfl rfl ?_
    refine V_ial dX11_isCover_27 (by first | assumption | exact ⟨by decide, rfl⟩) (show ix _ p 20 from ⟨rfl, by omega⟩) ?_
    refine V_iload_n dX11_isCover_28 rfl rfl ?_
    refine V_cS2i (M' := M_X11_has) (d' := 1) dX11_isCover_29 (Or.inl ml_X11_183) kb_X11_has (by first | decide | omega) (by simp [Value.category]) ⟨by decide, by decide⟩ ?_
    rw [hM.knw (by omega)]
    refine sp_mhas (lt31 (K3_lt hB p) (by decide)) (by omega) ⟨_, rfl, ?_⟩
    cases hk : (K 3 p).testBit i
    · rw [hk] at Kk
      by_cases hw2 : K 7 i = p + 1
      · refine V_if_ne_f (tgt := 49) dX11_isCover_32 (by decide) (rfl) ?_
        refine V_aload_n dX11_isCover_35 rfl rfl ?_
        refine V_getR dX11_isCover_36 fl_X11_37 (by first | assumption | exact ⟨by decide, rfl⟩) (by first | assumption | rfl) ?_
        refine V_iload_n dX11_isCover_39 rfl rfl ?_
        refine V_ial dX11_isCover_40 (by first | assumption | exact ⟨by decide, rfl⟩) (show ix _ i 16 from ⟨rfl, by omega⟩) ?_
        refine V_iload_n dX11_isCover_41 rfl rfl ?_
        refine V_icmp_eq_t (tgt := 49) dX11_isCover_42 (by decide) (by rw [hM.own (by omega)]; exact (owv_eq (by omega) (by omega)).mpr hw2) ?_
        refine V_iconst (v := 0) dX11_isCover_49 (by decide) ?_
        refine V_ireturn dX11_isCover_50 rfl rfl rfl (by decide) (by decide) ?_
        rw [decide_eq_true hw2] at Kk; exact Kk
      · refine V_if_ne_f (tgt := 49) dX11_isCover_32 (by decide) (rfl) ?_
        refine V_aload_n dX11_isCover_35 rfl rfl ?_
        refine V_getR dX11_isCover_36 fl_X11_37 (by first | assumption | exact ⟨by decide, rfl⟩) (by first | assumption | rfl) ?_
        refine V_iload_n dX11_isCover_39 rfl rfl ?_
        refine V_ial dX11_isCover_40 (by first | assumption | exact ⟨by decide, rfl⟩) (show ix _ i 16 from ⟨rfl, by omega⟩) ?_
        refine V_iload_n dX11_isCover_41 rfl rfl ?_
        refine V_icmp_eq_f (tgt := 49) dX11_isCover_42 (by decide) (by rw [hM.own (by omega)]; exact fun z => hw2 ((owv_eq (by omega) (by omega)).mp z)) ?_
        refine V_iconst (v := 1) dX11_isCover_45 (by decide) (V_goto (tgt := 50) dX11_isCover_46 (by decide) ?_)
        refine V_ireturn dX11_isCover_50 rfl rfl rfl (by decide) (by decide) ?_
        rw [decide_eq_false hw2] at Kk; exact Kk
    · rw [hk, Bool.not_true, Bool.and_false] at Kk
      refine V_if_ne_t (tgt := 49) dX11_isCover_32 (by decide) (by decide) ?_
      refine V_iconst (v := 0) dX11_isCover_49 (by decide) ?_
      refine V_ireturn dX11_isCover_50 rfl rfl rfl (by decide) (by decide) ?_
      exact Kk
  · rw [show skl K p i = false by unfold skl; simp [hz], Bool.false_and] at Kk
    refine V_aload_n dX11_isCover_0 rfl rfl ?_
    refine V_getR dX11_isCover_1 fl_X11_19 (by first | assumption | exact ⟨by decide, rfl⟩) (by first | assumption | rfl) ?_
    refine V_iload_n dX11_isCover_4 rfl rfl ?_
    refine V_ial dX11_isCover_5 (by first | assumption | exact ⟨by decide, rfl⟩) (show ix _ p 20 from ⟨rfl, by omega⟩) ?_
    refine V_aload_n dX11_isCover_6 rfl rfl ?_
    refine V_getR dX11_isCover_7 fl_X11_28 (by first | assumption | exact ⟨by decide, rfl⟩) (by first | assumption | rfl) ?_
    refine V_iload_n dX11_isCover_10 rfl rfl ?_
    refine V_ial dX11_isCover_11 (by first | assumption | exact ⟨by decide, rfl⟩) (show ix _ i 16 from ⟨rfl, by omega⟩) ?_
    refine V_iand dX11_isCover_12 (V_aload_n dX11_isCover_13 rfl rfl ?_)
    refine V_getR dX11_isCover_14 fl_X11_28 (by first | assumption | exact ⟨by decide, rfl⟩) (by first | assumption | rfl) ?_
    refine V_iload_n dX11_isCover_17 rfl rfl ?_
    refine V_ial dX11_isCover_18 (by first | assumption | exact ⟨by decide, rfl⟩) (show ix _ i 16 from ⟨rfl, by omega⟩) ?_
    refine V_icmp_ne_t (tgt := 49) dX11_isCover_19 (by decide) (by rw [hM.skl h1, hM.wnt h2, and_nI]; exact fun z => hz (and_eq_andn.mp ((nI_eq (by omega) (by omega)).mp z))) ?_
    refine V_iconst (v := 0) dX11_isCover_49 (by decide) ?_
    refine V_ireturn dX11_isCover_50 rfl rfl rfl (by decide) (by decide) ?_
    exact Kk
theorem MB_3 (hB : KB K) {p v : Nat} {I' : TI} (hM : MB I K) (he : ∀ x y, x ≠ 85 → I' x y = I x y) (h85 : ∀ q, q < 10 → I' 85 q = nI (up2 K 3 p v 3 q)) : MB I' (up2 K 3 p v) := by
  have e : ∀ f j, f ≠ 3 → up2 K 3 p v f j = K f j := fun f j h => u2n (Or.inl h)
  obtain ⟨⟨a1, a2, a3, a4⟩, ⟨b1, b2, b3, b4, b5⟩, dd, ee, f, g, k, l⟩ := hM
  refine ⟨⟨?_, ?_, ?_, ?_⟩, ⟨?_, ?_, ?_, ?_, ?_⟩, fun p hp => ⟨?_, ?_⟩, h85, fun i hi => ⟨?_, ?_, ?_, ?_⟩, fun i hi => ?_, fun s hs => ⟨?_, ?_⟩, fun j hj => ?_⟩ <;> rw [he _ _ (by omega), e _ _ (by decide)]
  · exact a1
  · exact a2
  · exact a3
  · exact a4
  · exact b1
  · exact b2
  · exact b3
  · exact b4
  · exact b5
  · exact (dd p (by rwa [e _ _ (by decide)] at hp)).1
  · exact (dd p (by rwa [e _ _ (by decide)] at hp)).2
  · exact (f i (by rwa [e _ _ (by decide)] at hi)).1
  · exact (f i (by rwa [e _ _ (by decide)] at hi)).2.1
  · exact (f i (by rwa [e _ _ (by decide)] at hi)).2.2.1
  · exact (f i (by rwa [e _ _ (by decide)] at hi)).2.2.2
  · exact g i hi
  · exact (k s (by rwa [e _ _ (by decide)] at hs)).1
  · exact (k s (by rwa [e _ _ (by decide)] at hs)).2
  · exact l j hj
theorem up3_mayM {p v q : Nat} (h : q ≠ p) : mayM (up2 K 3 p v) q = mayM K q := by
  unfold mayM may skl
  rw [u2n (f := K) (a := 0) (by omega)]
  refine mk_ext (fun i _ => ?_)
  rw [u2n (f := K) (a := 7) (by omega), u2n (f := K) (a := 3) (by omega), u2n (f := K) (a := 5) (by omega), u2n (f := K) (a := 2) (by omega)]
theorem up3_clsL {p v i j : Nat} : ∀ r s l n, clsL (up2 K 3 p v) i j r s l n = clsL K i j r s l n
  | 0, s, l, n => rfl
  | r + 1, s, l, n => by
    unfold clsL
    rw [u2n (f := K) (a := 9) (by omega), u2n (f := K) (a := 10) (by omega), u2n (f := K) (a := 0) (by omega), up3_clsL r, up3_clsL r]
theorem up3_withM {p v i : Nat} : withM (up2 K 3 p v) i = withM K i := by
  unfold withM cls
  rw [u2n (f := K) (a := 0) (by omega), u2n (f := K) (a := 0) (by omega)]
  refine mk_ext (fun j _ => ?_)
  rw [up3_clsL]
theorem mr_setCover {t v : Nat} {b : Bool} (hB : KB K) (hB2 : KB (up2 K 3 (t / 8) v)) (hM : MB I K) (hR : MR I K) (h1 : t / 8 < K 0 0) (h2 : t % 8 < K 0 1) (hv : v = if b = true then K 3 (t / 8) ||| 2 ^ (t % 8) else andn (K 3 (t / 8)) (2 ^ (t % 8))) (Kk : ∀ I', (∀ x y, x ≠ 85 → x ≠ 93 → I' x y = I x y) → MB I' (up2 K 3 (t / 8) v) → MR I' (up2 K 3 (t / 8) v) → Post none NC I' J (RR co dr cc a1 a2)) : Cal E 4 M_X11_setCover [.ref 70, .int (nI (t / 8)), .int (nI (t % 8)), .int (b2i b)] NC I J (RR co dr cc a1 a2) Post := by
  have hP := hB.1.1
  have hQ := hB.1.2.1
  generalize t / 8 = p at *
  generalize t % 8 = i at *
  have e0 : up2 K 3 p v 0 0 = K 0 0 := u2n (Or.inl (by decide))
  have e1 : up2 K 3 p v 0 1 = K 0 1 := u2n (Or.inl (by decide))
  have tail : V E 4 M_X11_setCover Post 35 [some (.ref 70), some (.int (nI p)), some (.int (nI i)), some (.int (b2i b))] [] NC 0 0 (up2 I 85 p (nI v)) J (RR co dr cc a1 a2) := by
    have hM2 : MB (up2 I 85 p (nI v)) (up2 K 3 p v) := MB_3 hB hM (fun x y a => u2n (by omega)) (fun q hq => by
      by_cases hqp : q = p
      · rw [hqp, u2e, u2e]
      · rw [u2n (by omega), u2n (by omega)]; exact hM.knw hq)
    refine V_aload_n dX11_setCover_35 rfl rfl (V_iload_n dX11_setCover_36 rfl rfl ?_)
    refine V_cV1v (M' := M_X11_layMays) (d' := 3) dX11_setCover_37 (Or.inl ml_X11_186) kb_X11_layMays (by first | assumption | exact ⟨by decide, rfl⟩) (by first | decide | omega) (by simp [Value.category]) ⟨by decide, by decide⟩ ?_
    refine mr_layMays hB2 hM2 (by rw [e0]; exact h1) ⟨rfl, ?_⟩
    refine V_return dX11_setCover_40 rfl rfl (by decide) (by decide) ?_
    refine Kk _ (fun x y a b => by rw [u2n (by omega), u2n (by omega)]) (hM2.all hB2 (fun x y a b => u2n (by omega))) ⟨fun q hq => ?_, fun j hj => ?_⟩
    · by_cases hqp : q = p
      · rw [hqp, u2e]
      · rw [u2n (by omega), u2n (by omega), up3_mayM hqp]; exact hR.1 q (by rwa [e0] at hq)
    · rw [u2n (by omega), u2n (by omega), up3_withM]; exact hR.2 j (by rwa [e1] at hj)
  refine Cal_of kn_X11_setCover rfl (Nat.le_of_ble_eq_true rfl) ?_
  cases b
  · rw [if_neg (by decide)] at hv
    refine V_aload_n dX11_setCover_0 rfl rfl ?_
    refine V_getR dX11_setCover_1 fl_X11_52 (by first | assumption | exact ⟨by decide, rfl⟩) (by first | assumption | rfl) ?_
    refine V_iload_n dX11_setCover_4 rfl rfl (V_iload_n dX11_setCover_5 rfl rfl ?_)
    refine V_if_eq_t (tgt := 22) dX11_setCover_6 (by decide) (rfl) ?_
    refine V_aload_n dX11_setCover_22 rfl rfl ?_
    refine V_getR dX11_setCover_23 fl_X11_52 (by first | assumption | exact ⟨by decide, rfl⟩) (by first | assumption | rfl) ?_
    refine V_iload_n dX11_setCover_26 rfl rfl ?_
    refine V_ial dX11_setCover_27 (by first | assumption | exact ⟨by decide, rfl⟩) (show ix _ p 20 from ⟨rfl, by omega⟩) ?_
    refine V_iconst (v := 1) dX11_setCover_28 (by decide) (V_iload_n dX11_setCover_29 rfl rfl (V_ishl dX11_setCover_30 (V_iconst (v := (-1)) dX11_setCover_31 (by decide) (V_ixor dX11_setCover_32 (V_iand dX11_setCover_33 ?_)))))
    refine V_ias dX11_setCover_34 (by first | assumption | exact ⟨by decide, rfl⟩) (show ix _ p 20 from ⟨rfl, by omega⟩) ?_
    rw [hM.knw (by omega), shl1 (by omega), andn_nI, ← hv]
    exact tail
  · rw [if_pos rfl] at hv
    refine V_aload_n dX11_setCover_0 rfl rfl ?_
    refine V_getR dX11_setCover_1 fl_X11_52 (by first | assumption | exact ⟨by decide, rfl⟩) (by first | assumption | rfl) ?_
    refine V_iload_n dX11_setCover_4 rfl rfl (V_iload_n dX11_setCover_5 rfl rfl ?_)
    refine V_if_eq_f (tgt := 22) dX11_setCover_6 (by decide) (by decide) ?_
    refine V_aload_n dX11_setCover_9 rfl rfl ?_
    refine V_getR dX11_setCover_10 fl_X11_52 (by first | assumption | exact ⟨by decide, rfl⟩) (by first | assumption | rfl) ?_
    refine V_iload_n dX11_setCover_13 rfl rfl ?_
    refine V_ial dX11_setCover_14 (by first | assumption | exact ⟨by decide, rfl⟩) (show ix _ p 20 from ⟨rfl, by omega⟩) ?_
    refine V_iconst (v := 1) dX11_setCover_15 (by decide) (V_iload_n dX11_setCover_16 rfl rfl (V_ishl dX11_setCover_17 (V_ior dX11_setCover_18 (V_goto (tgt := 34) dX11_setCover_19 (by decide) ?_))))
    refine V_ias dX11_setCover_34 (by first | assumption | exact ⟨by decide, rfl⟩) (show ix _ p 20 from ⟨rfl, by omega⟩) ?_
    rw [hM.knw (by omega), shl1 (by omega), or_nI, ← hv]
    exact tail
def FrE (I I' : TI) : Prop := ∀ x y, x ≠ 85 → x ≠ 93 → x ≠ 95 → x ≠ 96 → x ≠ 97 → (x ≠ 70 ∨ y ≠ 31 ∧ y ≠ 39) → I' x y = I x y
theorem FrE.trans {I1 I2 : TI} (g : FrE I I1) (h : FrE I1 I2) : FrE I I2 := fun x y a b c e f k => (h x y a b c e f k).trans (g x y a b c e f k)
theorem FrE.refl : FrE I I := fun _ _ _ _ _ _ _ _ => rfl
theorem FrW.toE {I1 : TI} (g : FrW I I1) : FrE I I1 := fun x y _ _ c e f k => g x y c e f k
theorem FrE.sc {I1 : TI} (h : ∀ x y, x ≠ 85 → x ≠ 93 → I1 x y = I x y) : FrE I I1 := fun x y a b _ _ _ _ => h x y a b
theorem FrE.MDX {I1 : TI} {b : Nat} (g : FrE I I1) (hM : MDX I b D) : MDX I1 b D := hM.of (fun x y a b => g _ _ (by omega) (by omega) (by omega) (by omega) (by omega) (by omega))
theorem mr_noneWeak (hB : KB K) (hM : MB I K) (hR : MR I K) (hD : MDX I 0 D) (hDB : DB D.1 D.2.1) (Kk : ∀ I' J', FrC I I' → FJ J J' → Post (some (.int (b2i (decide (wW K 2 = 0))))) NC I' J' (RR co dr cc a1 a2)) : Cal E 5 M_X11_noneWeak [.ref 70] NC I J (RR co dr cc a1 a2) Post := by
  have hP := hB.1.1
  have hpw : 2 ^ K 0 0 ≤ 1024 := Nat.pow_le_pow_right (n := 2) (by decide) hP
  refine Cal_of kn_X11_noneWeak rfl (Nat.le_of_ble_eq_true rfl) ?_
  refine V_iconst (v := 1) dX11_noneWeak_0 (by decide) (V_istore_1 dX11_noneWeak_1 (by decide) rfl (V_iconst (v := 0) dX11_noneWeak_2 (by decide) (V_istore_2 dX11_noneWeak_3 (by decide) rfl ?_)))
  have key : ∀ s, s ≤ 2 ^ K 0 0 → ∀ I1 J1, FrC I I1 → FJ J J1 → V E 5 M_X11_noneWeak Post 4 [some (.ref 70), some (.int (b2i (decide (fb_ct (wk K 2) s = 0)))), some (.int (nI s))] [] NC 0 0 I1 J1 (RR co dr cc a1 a2) := by
    refine loop_up (2 ^ K 0 0) ?_ ?_
    · intro I1 J1 f1 j1
      refine V_iload_n dX11_noneWeak_4 rfl rfl (V_iconst (v := 1) dX11_noneWeak_5 (by decide) (V_aload_n dX11_noneWeak_6 rfl rfl ?_))
      refine V_getR dX11_noneWeak_7 fl_X11_13 (by first | assumption | exact ⟨by decide, rfl⟩) (by first | assumption | rfl) ?_
      refine V_iconst (v := 0) dX11_noneWeak_10 (by decide) ?_
      refine V_ial dX11_noneWeak_11 (by first | assumption | exact ⟨by decide, rfl⟩) (show ix _ 0 _ from ⟨rfl, by decide⟩) ?_
      refine V_ishl dX11_noneWeak_12 ?_
      refine V_icmp_ge_t (tgt := 50) dX11_noneWeak_13 (by decide) (by rw [(f1.MB hB hM).n0, shl1 (by omega)]; exact nI_le (by omega) (by omega)) ?_
      refine V_iload_n dX11_noneWeak_50 rfl rfl ?_
      refine V_ireturn dX11_noneWeak_51 rfl rfl (b2i_nar _) (by decide) (by decide) ?_
      exact Kk I1 J1 f1 j1
    · intro s hs ih I1 J1 f1 j1
      have hM1 := f1.MB hB hM
      have hlt : ¬ (1 : Int32) <<< (I1 72 0 &&& 31) ≤ nI s := by rw [hM1.n0, shl1 (by omega)]; exact nI_ge hs (by omega)
      by_cases h0 : fb_ct (wk K 2) s = 0
      · rw [decide_eq_true h0]
        have fin : ∀ I2 J2 (b : Bool), FrC I I2 → FJ J J2 → b = (!wk K 2 s) → V E 5 M_X11_noneWeak Post 43 [some (.ref 70), some (.int (b2i true)), some (.int (nI s))] [.int (b2i b)] NC 0 0 I2 J2 (RR co dr cc a1 a2) := by
          intro I2 J2 b f2 j2 hb
          refine V_istore_1 dX11_noneWeak_43 (by decide) rfl (V_iinc_2 (w := 1) dX11_noneWeak_44 (by decide) (by decide) rfl (V_goto (tgt := 4) dX11_noneWeak_47 (by decide) ?_))
          rw [nI_1]
          have h9 := ih I2 J2 f2 j2
          have e9 : decide (fb_ct (wk K 2) (s + 1) = 0) = b := by
            rw [hb, fb_ct_succ, h0]
            cases wk K 2 s <;> rfl
          rw [e9] at h9
          exact h9
        refine V_iload_n dX11_noneWeak_4 rfl rfl (V_iconst (v := 1) dX11_noneWeak_5 (by decide) (V_aload_n dX11_noneWeak_6 rfl rfl ?_))
        refine V_getR dX11_noneWeak_7 fl_X11_13 (by first | assumption | exact ⟨by decide, rfl⟩) (by first | assumption | rfl) ?_
        refine V_iconst (v := 0) dX11_noneWeak_10 (by decide) ?_
        refine V_ial dX11_noneWeak_11 (by first | assumption | exact ⟨by decide, rfl⟩) (show ix _ 0 _ from ⟨rfl, by decide⟩) ?_
        refine V_ishl dX11_noneWeak_12 ?_
        refine V_icmp_ge_f (tgt := 50) dX11_noneWeak_13 (by decide) (hlt) ?_
        refine V_iload_n dX11_noneWeak_16 rfl rfl ?_
        refine V_if_eq_f (tgt := 50) dX11_noneWeak_17 (by decide) (by decide) ?_
        refine V_iload_n dX11_noneWeak_20 rfl rfl ?_
        refine V_cS1i (M' := M_X11_bits) (d' := 1) dX11_noneWeak_21 (Or.inl ml_X11_285) kb_X11_bits (by first | decide | omega) (by simp [Value.category]) ⟨by decide, by decide⟩ ?_
        refine mr_bits (by omega) ⟨_, rfl, ?_⟩
        have hp10 := pop_le s
        by_cases hpk : pop s = 2
        · refine V_iconst (v := 2) dX11_noneWeak_24 (by decide) ?_
          refine V_icmp_ne_f (tgt := 38) dX11_noneWeak_25 (by decide) (by rw [hpk]; rfl) ?_
          refine V_aload_n dX11_noneWeak_28 rfl rfl (V_iload_n dX11_noneWeak_29 rfl rfl (V_iconst (v := 0) dX11_noneWeak_30 (by decide) (V_iconst (v := 0) dX11_noneWeak_31 (by decide) ?_)))
          refine V_cV3i (M' := M_X11_cast) (d' := 4) dX11_noneWeak_32 (Or.inl ml_X11_235) kb_X11_cast (by first | assumption | exact ⟨by decide, rfl⟩) (by first | decide | omega) (by simp [Value.category]) ⟨by decide, by decide⟩ ?_
          refine mr_cast (all := false) (cut := 0) hB hM1 (f1.MR hR) (f1.MDX hD) hDB (by omega) (by decide) (fun _ I2 J2 g1 g2 => ⟨_, rfl, ?_⟩) (fun z => by cases z)
          have ew : wk K 2 s = !metB K s 0 := by unfold wk; rw [decide_eq_true hpk]; rfl
          cases hm : metB K s 0
          · refine V_if_eq_t (tgt := 42) dX11_noneWeak_35 (by decide) (rfl) ?_
            refine V_iconst (v := 0) dX11_noneWeak_42 (by decide) ?_
            exact fin I2 J2 false (f1.trans g1) (j1.trans g2) (by rw [ew, hm]; rfl)
          · refine V_if_eq_f (tgt := 42) dX11_noneWeak_35 (by decide) (by decide) ?_
            refine V_iconst (v := 1) dX11_noneWeak_38 (by decide) (V_goto (tgt := 43) dX11_noneWeak_39 (by decide) ?_)
            exact fin I2 J2 true (f1.trans g1) (j1.trans g2) (by rw [ew, hm]; rfl)
        · refine V_iconst (v := 2) dX11_noneWeak_24 (by decide) ?_
          refine V_icmp_ne_t (tgt := 38) dX11_noneWeak_25 (by decide) (by rw [show (2 : Int32) = nI 2 from rfl]; exact fun z => hpk ((nI_eq (by omega) (by omega)).mp z)) ?_
          refine V_iconst (v := 1) dX11_noneWeak_38 (by decide) (V_goto (tgt := 43) dX11_noneWeak_39 (by decide) ?_)
          exact fin I1 J1 true f1 j1 (by unfold wk; rw [decide_eq_false hpk]; rfl)
      · rw [decide_eq_false h0]
        refine V_iload_n dX11_noneWeak_4 rfl rfl (V_iconst (v := 1) dX11_noneWeak_5 (by decide) (V_aload_n dX11_noneWeak_6 rfl rfl ?_))
        refine V_getR dX11_noneWeak_7 fl_X11_13 (by first | assumption | exact ⟨by decide, rfl⟩) (by first | assumption | rfl) ?_
        refine V_iconst (v := 0) dX11_noneWeak_10 (by decide) ?_
        refine V_ial dX11_noneWeak_11 (by first | assumption | exact ⟨by decide, rfl⟩) (show ix _ 0 _ from ⟨rfl, by decide⟩) ?_
        refine V_ishl dX11_noneWeak_12 ?_
        refine V_icmp_ge_f (tgt := 50) dX11_noneWeak_13 (by decide) (hlt) ?_
        refine V_iload_n dX11_noneWeak_16 rfl rfl ?_
        refine V_if_eq_t (tgt := 50) dX11_noneWeak_17 (by decide) (rfl) ?_
        refine V_iload_n dX11_noneWeak_50 rfl rfl ?_
        refine V_ireturn dX11_noneWeak_51 rfl rfl rfl (by decide) (by decide) ?_
        have h9 := Kk I1 J1 f1 j1
        have hW : ¬ wW K 2 = 0 := fun z => by
          have := fb_ct_mono (wk K 2) (show s ≤ 2 ^ K 0 0 by omega)
          unfold wW at z
          omega
        rw [decide_eq_false hW] at h9
        exact h9
  exact key 0 (Nat.zero_le _) I J FrC.refl FJ.refl
end
section
variable {E : En} {I : TI} {J : TJ} {co dr : Nat} {cc a1 a2 : Option Nat} {Post : PT} {t : Nat → Nat} {len : Nat} {K : KT} {D D1 D2 : Di} {kp : Nat} {tl : Nat → Int32} {d : Nat}
theorem FrE.MS {I' : TI} (g : FrE I I') (h : MS t len K D D1 D2 kp tl I) (hM : MB I' K) (hR : MR I' K) : MS t len K D D1 D2 kp tl I' :=
  ⟨h.1, hM, hR, h.2.2.2.1.of (fun y => g _ _ (by omega) (by omega) (by omega) (by omega) (by omega) (by omega)) (g _ _ (by omega) (by omega) (by omega) (by omega) (by omega) (by omega)), h.2.2.2.2.of (fun x y a b => g _ _ (by omega) (by omega) (by omega) (by omega) (by omega) (by omega)) (g _ _ (by omega) (by omega) (by omega) (by omega) (by omega) (by omega))⟩
theorem FrE.lo {I1 : TI} (g : FrE I I1) : ∀ x y, x < 70 → I1 x y = I x y := fun x y a => g x y (by omega) (by omega) (by omega) (by omega) (by omega) (by omega)
def enF (o : Option (Nat × Nat)) : Nat := match o with | none => 0 | some r => r.2
theorem rop_engaged (hd : 6 ≤ d) (hDB : DB D.1 D.2.1) (h : MS t len K D D1 D2 kp tl I) {k w : Int32} : Cal E d M_X11_engaged [.ref 70, .int k, .int w] NC I J (RR co dr cc a1 a2) (MK t len K D D1 D2 kp tl (some (.int (a_eng K k w))) I J (RR co dr cc a1 a2)) := by
  have h' := h
  obtain ⟨hB, hM, hR, hT, hD⟩ := h
  have hP := hB.1.1
  have hQ := hB.1.2.1
  have hpw : 2 ^ K 0 0 ≤ 1024 := Nat.pow_le_pow_right (n := 2) (by decide) hP
  refine Cal_of kn_X11_engaged rfl (Nat.le_of_ble_eq_true rfl) ?_
  refine V_iload_n dX11_engaged_0 rfl rfl (V_i2l dX11_engaged_1 (V_lconst (v := 1) dX11_engaged_2 rfl (V_ldc2_w dX11_engaged_3 ct_X11_288 ?_)))
  refine V_cS3i (M' := M_X11_in) (d' := 1) dX11_engaged_6 (Or.inl ml_X11_124) kb_X11_in (by first | decide | omega) (by simp [Value.category]) ⟨by decide, by decide⟩ ?_
  refine mr_in ⟨_, rfl, ?_⟩
  rw [in_K]
  cases hv : kI k
  · refine V_if_eq_t (tgt := 22) dX11_engaged_9 (by decide) (rfl) ?_
    refine V_iconst (v := (-1)) dX11_engaged_22 (by decide) ?_
    refine V_ireturn dX11_engaged_23 rfl rfl rfl (by decide) (by decide) ?_
    rw [a_eng, hv]; exact MK.same h'
  obtain ⟨p1, p2⟩ := kI_cl hv
  refine V_if_eq_f (tgt := 22) dX11_engaged_9 (by decide) (by decide) ?_
  refine V_iload_n dX11_engaged_12 rfl rfl (V_i2l dX11_engaged_13 (V_lconst (v := 0) dX11_engaged_14 rfl (V_lconst (v := 1) dX11_engaged_15 rfl ?_)))
  refine V_cS3i (M' := M_X11_in) (d' := 1) dX11_engaged_16 (Or.inl ml_X11_124) kb_X11_in (by first | decide | omega) (by simp [Value.category]) ⟨by decide, by decide⟩ ?_
  refine mr_in ⟨_, rfl, ?_⟩
  rw [in_01]
  cases hw : inR w 2
  · refine V_if_ne_f (tgt := 24) dX11_engaged_19 (by decide) (rfl) ?_
    refine V_iconst (v := (-1)) dX11_engaged_22 (by decide) ?_
    refine V_ireturn dX11_engaged_23 rfl rfl rfl (by decide) (by decide) ?_
    rw [a_eng, hv, hw]; exact MK.same h'
  obtain ⟨w1, w2⟩ := inR_cl hw (by omega)
  have hans : a_eng K k w = (if cl w = 0 then engV (eng K (cl k) (ncv K)) else match eng K (cl k) (ncv K) with | none => -4 | some r => nI r.2) := by rw [a_eng, hv, hw]; rfl
  rw [hans]
  clear hans
  generalize cl k = kk at *
  subst p2
  have hwt : ∀ u, wt K kk u ≤ 1024 := fun u => Nat.le_trans (fb_ct_le _ _) hpw
  refine V_if_ne_t (tgt := 24) dX11_engaged_19 (by decide) (by decide) ?_
  refine V_bipush (v := (-4)) dX11_engaged_24 (by decide) (V_istore_3 dX11_engaged_26 (by decide) rfl (V_iconst (v := 0) dX11_engaged_27 (by decide) (V_istore_4 dX11_engaged_28 (by decide) rfl (V_iconst (v := 0) dX11_engaged_30 (by decide) (V_istore_5 dX11_engaged_31 (by decide) rfl ?_)))))
  have key : ∀ p, p ≤ K 0 0 → ∀ I1 J1, FrE I I1 → FJ J J1 → MB I1 K → MR I1 K → V E d M_X11_engaged (MK t len K D D1 D2 kp tl (some (.int (if cl w = 0 then engV (eng K kk (ncv K)) else match eng K kk (ncv K) with | none => -4 | some r => nI r.2))) I J (RR co dr cc a1 a2)) 33 [some (.ref 70), some (.int (nI kk)), some (.int w), some (.int (engV (eng K kk (fb_ct (cvb K) (8 * p))))), some (.int (nI (enF (eng K kk (fb_ct (cvb K) (8 * p)))))), some (.int (nI p)), none, none] [] NC 0 0 I1 J1 (RR co dr cc a1 a2) := by
    refine loop_up (K 0 0) ?_ ?_
    · intro I1 J1 f1 j1 hM1 hR1
      have fin : ∀ v, MK t len K D D1 D2 kp tl (some (.int v)) I J (RR co dr cc a1 a2) (some (.int v)) NC I1 J1 (RR co dr cc a1 a2) := fun v => ⟨rfl, rfl, rfl, f1.MS h' hM1 hR1, f1.lo, j1.mk⟩
      have e0 : fb_ct (cvb K) (8 * K 0 0) = ncv K := rfl
      rw [e0]
      cases he : eng K kk (ncv K) with
      | none =>
        refine V_iload dX11_engaged_33 rfl (V_aload_n dX11_engaged_35 rfl rfl ?_)
        refine V_getR dX11_engaged_36 fl_X11_13 (by first | assumption | exact ⟨by decide, rfl⟩) (by first | assumption | rfl) ?_
        refine V_iconst (v := 0) dX11_engaged_39 (by decide) ?_
        refine V_ial dX11_engaged_40 (by first | assumption | exact ⟨by decide, rfl⟩) (show ix _ 0 _ from ⟨rfl, by decide⟩) ?_
        refine V_icmp_ge_t (tgt := 130) dX11_engaged_41 (by decide) (by rw [hM1.n0]; exact nI_le (by omega) (by omega)) ?_
        refine V_iload_n dX11_engaged_130 rfl rfl ?_
        refine V_if_ge_f (tgt := 139) dX11_engaged_131 (by decide) (by decide) ?_
        refine V_bipush (v := (-4)) dX11_engaged_134 (by decide) (V_goto (tgt := 149) dX11_engaged_136 (by decide) ?_)
        refine V_ireturn dX11_engaged_149 rfl rfl rfl (by decide) (by decide) ?_
        show MK t len K D D1 D2 kp tl (some (.int (if cl w = 0 then -4 else -4))) I J (RR co dr cc a1 a2) (some (.int (-4))) NC I1 J1 (RR co dr cc a1 a2)
        rw [ite_self]; exact fin _
      | some r =>
        have hr := eng_in (Nat.le_refl _) r he
        by_cases hz : cl w = 0
        · refine V_iload dX11_engaged_33 rfl (V_aload_n dX11_engaged_35 rfl rfl ?_)
          refine V_getR dX11_engaged_36 fl_X11_13 (by first | assumption | exact ⟨by decide, rfl⟩) (by first | assumption | rfl) ?_
          refine V_iconst (v := 0) dX11_engaged_39 (by decide) ?_
          refine V_ial dX11_engaged_40 (by first | assumption | exact ⟨by decide, rfl⟩) (show ix _ 0 _ from ⟨rfl, by decide⟩) ?_
          refine V_icmp_ge_t (tgt := 130) dX11_engaged_41 (by decide) (by rw [hM1.n0]; exact nI_le (by omega) (by omega)) ?_
          refine V_iload_n dX11_engaged_130 rfl rfl ?_
          refine V_if_ge_t (tgt := 139) dX11_engaged_131 (by decide) (nI_pos' (by omega)) ?_
          refine V_iload_n dX11_engaged_139 rfl rfl ?_
          refine V_if_ne_f (tgt := 147) dX11_engaged_140 (by decide) (by rw [w2, hz]; rfl) ?_
          refine V_iload_n dX11_engaged_143 rfl rfl (V_goto (tgt := 149) dX11_engaged_144 (by decide) ?_)
          refine V_ireturn dX11_engaged_149 rfl rfl rfl (by decide) (by decide) ?_
          rw [if_pos hz]; exact fin _
        · refine V_iload dX11_engaged_33 rfl (V_aload_n dX11_engaged_35 rfl rfl ?_)
          refine V_getR dX11_engaged_36 fl_X11_13 (by first | assumption | exact ⟨by decide, rfl⟩) (by first | assumption | rfl) ?_
          refine V_iconst (v := 0) dX11_engaged_39 (by decide) ?_
          refine V_ial dX11_engaged_40 (by first | assumption | exact ⟨by decide, rfl⟩) (show ix _ 0 _ from ⟨rfl, by decide⟩) ?_
          refine V_icmp_ge_t (tgt := 130) dX11_engaged_41 (by decide) (by rw [hM1.n0]; exact nI_le (by omega) (by omega)) ?_
          refine V_iload_n dX11_engaged_130 rfl rfl ?_
          refine V_if_ge_t (tgt := 139) dX11_engaged_131 (by decide) (nI_pos' (by omega)) ?_
          refine V_iload_n dX11_engaged_139 rfl rfl ?_
          refine V_if_ne_t (tgt := 147) dX11_engaged_140 (by decide) (by rw [w2, ← nI_0]; exact fun z => hz ((nI_eq (by omega) (by omega)).mp z)) ?_
          refine V_iload dX11_engaged_147 rfl ?_
          refine V_ireturn dX11_engaged_149 rfl rfl rfl (by decide) (by decide) ?_
          rw [if_neg hz]; exact fin _
    · intro p hp ih I1 J1 f1 j1 hM1 hR1
      refine V_iload dX11_engaged_33 rfl (V_aload_n dX11_engaged_35 rfl rfl ?_)
      refine V_getR dX11_engaged_36 fl_X11_13 (by first | assumption | exact ⟨by decide, rfl⟩) (by first | assumption | rfl) ?_
      refine V_iconst (v := 0) dX11_engaged_39 (by decide) ?_
      refine V_ial dX11_engaged_40 (by first | assumption | exact ⟨by decide, rfl⟩) (show ix _ 0 _ from ⟨rfl, by decide⟩) ?_
      refine V_icmp_ge_f (tgt := 130) dX11_engaged_41 (by decide) (by rw [hM1.n0]; exact nI_ge hp (by omega)) ?_
      refine V_iconst (v := 0) dX11_engaged_44 (by decide) (V_istore_6 dX11_engaged_45 (by decide) rfl ?_)
      have key2 : ∀ i, i ≤ K 0 1 → ∀ I2 J2, FrE I I2 → FJ J J2 → MB I2 K → MR I2 K → V E d M_X11_engaged (MK t len K D D1 D2 kp tl (some (.int (if cl w = 0 then engV (eng K kk (ncv K)) else match eng K kk (ncv K) with | none => -4 | some r => nI r.2))) I J (RR co dr cc a1 a2)) 47 [some (.ref 70), some (.int (nI kk)), some (.int w), some (.int (engV (eng K kk (fb_ct (cvb K) (8 * p + i))))), some (.int (nI (enF (eng K kk (fb_ct (cvb K) (8 * p + i)))))), some (.int (nI p)), some (.int (nI i)), none] [] NC 0 0 I2 J2 (RR co dr cc a1 a2) := by
        refine loop_up (K 0 1) ?_ ?_
        · intro I2 J2 f2 j2 hM2 hR2
          refine V_iload dX11_engaged_47 rfl (V_aload_n dX11_engaged_49 rfl rfl ?_)
          refine V_getR dX11_engaged_50 fl_X11_22 (by first | assumption | exact ⟨by decide, rfl⟩) (by first | assumption | rfl) ?_
          refine V_iconst (v := 0) dX11_engaged_53 (by decide) ?_
          refine V_ial dX11_engaged_54 (by first | assumption | exact ⟨by decide, rfl⟩) (show ix _ 0 _ from ⟨rfl, by decide⟩) ?_
          refine V_icmp_ge_t (tgt := 124) dX11_engaged_55 (by decide) (by rw [hM2.n1]; exact nI_le (by omega) (by omega)) ?_
          refine V_iinc_5 (w := 1) dX11_engaged_124 (by decide) (by decide) rfl (V_goto (tgt := 33) dX11_engaged_127 (by decide) ?_)
          rw [nI_1]
          have h9 := ih I2 J2 f2 j2 hM2 hR2
          rw [← cvb_row K hQ p] at h9
          exact V_forget h9 (by simp [lessb])
        · intro i hi ih2 I2 J2 f2 j2 hM2 hR2
          have et8 : (8 * p + i) / 8 = p := by omega
          have em8 : (8 * p + i) % 8 = i := by omega
          have ecv : cva K (8 * p + i) = cvb K (8 * p + i) := by unfold cva; rw [decide_eq_true (by omega)]; rfl
          refine V_iload dX11_engaged_47 rfl (V_aload_n dX11_engaged_49 rfl rfl ?_)
          refine V_getR dX11_engaged_50 fl_X11_22 (by first | assumption | exact ⟨by decide, rfl⟩) (by first | assumption | rfl) ?_
          refine V_iconst (v := 0) dX11_engaged_53 (by decide) ?_
          refine V_ial dX11_engaged_54 (by first | assumption | exact ⟨by decide, rfl⟩) (show ix _ 0 _ from ⟨rfl, by decide⟩) ?_
          refine V_icmp_ge_f (tgt := 124) dX11_engaged_55 (by decide) (by rw [hM2.n1]; exact nI_ge hi (by omega)) ?_
          refine V_aload_n dX11_engaged_58 rfl rfl (V_iload dX11_engaged_59 rfl (V_iload dX11_engaged_61 rfl ?_))
          refine V_cV2i (M' := M_X11_isCover) (d' := 2) dX11_engaged_63 (Or.inl ml_X11_293) kb_X11_isCover (by first | assumption | exact ⟨by decide, rfl⟩) (by first | decide | omega) (by simp [Value.category]) ⟨by decide, by decide⟩ ?_
          have hcv := mr_isCover (E := E) (I := I2) (J := J2) (co := co) (dr := dr) (cc := cc) (a1 := a1) (a2 := a2) (t := 8 * p + i) hB hM2 (by rw [et8]; exact hp) (by rw [em8]; exact hi) (Post := fun v n' I' J' R' => ∃ x, v = some (.int x) ∧ V E d M_X11_engaged (MK t len K D D1 D2 kp tl (some (.int (if cl w = 0 then engV (eng K kk (ncv K)) else match eng K kk (ncv K) with | none => -4 | some r => nI r.2))) I J (RR co dr cc a1 a2)) 66 [some (.ref 70), some (.int (nI kk)), some (.int w), some (.int (engV (eng K kk (fb_ct (cvb K) (8 * p + i))))), some (.int (nI (enF (eng K kk (fb_ct (cvb K) (8 * p + i)))))), some (.int (nI p)), some (.int (nI i)), none] [.int x] n' 0 0 I' J' R')
          rw [et8, em8] at hcv
          refine hcv ⟨_, rfl, ?_⟩
          have t118 : ∀ I3 J3 o7, eng K kk (fb_ct (cvb K) (8 * p + i + 1)) = eng K kk (fb_ct (cvb K) (8 * p + i)) → FrE I I3 → FJ J J3 → MB I3 K → MR I3 K → V E d M_X11_engaged (MK t len K D D1 D2 kp tl (some (.int (if cl w = 0 then engV (eng K kk (ncv K)) else match eng K kk (ncv K) with | none => -4 | some r => nI r.2))) I J (RR co dr cc a1 a2)) 118 [some (.ref 70), some (.int (nI kk)), some (.int w), some (.int (engV (eng K kk (fb_ct (cvb K) (8 * p + i))))), some (.int (nI (enF (eng K kk (fb_ct (cvb K) (8 * p + i)))))), some (.int (nI p)), some (.int (nI i)), o7] [] NC 0 0 I3 J3 (RR co dr cc a1 a2) := by
            intro I3 J3 o7 he f3 j3 hM3 hR3
            refine V_iinc_6 (w := 1) dX11_engaged_118 (by decide) (by decide) rfl (V_goto (tgt := 47) dX11_engaged_121 (by decide) ?_)
            rw [nI_1]
            have h9 := ih2 I3 J3 f3 j3 hM3 hR3
            rw [← Nat.add_assoc, he] at h9
            exact V_forget h9 (by simp [lessb])
          cases hc : cva K (8 * p + i)
          · refine V_if_eq_t (tgt := 118) dX11_engaged_66 (by decide) (rfl) ?_
            refine t118 I2 J2 none ?_ f2 j2 hM2 hR2
            rw [fb_ct_succ, ← ecv, hc]; rfl
          · obtain ⟨v1, v2, v3, v4, v5, v6⟩ := cva_in hc
            have hB2 := KB_cvK hB hc
            obtain ⟨k1, k2⟩ := may_known v4 v5
            have ect : fb_ct (cvb K) (8 * p + i + 1) = fb_ct (cvb K) (8 * p + i) + 1 := by rw [fb_ct_succ, v6]; rfl
            have ecn : cvn K (fb_ct (cvb K) (8 * p + i)) = 8 * p + i := nthf_at v6 v1
            have eeng : eng K kk (fb_ct (cvb K) (8 * p + i) + 1) = match eng K kk (fb_ct (cvb K) (8 * p + i)) with | none => some (8 * p + i, wt K kk (8 * p + i)) | some r => if wt K kk (8 * p + i) < r.2 then some (8 * p + i, wt K kk (8 * p + i)) else some r := by
              rw [eng, ecn]
              cases eng K kk (fb_ct (cvb K) (8 * p + i)) <;> rfl
            refine V_if_eq_f (tgt := 118) dX11_engaged_66 (by decide) (by decide) ?_
            refine V_aload_n dX11_engaged_69 rfl rfl (V_iload dX11_engaged_70 rfl (V_iload dX11_engaged_72 rfl (V_iconst (v := 1) dX11_engaged_74 (by decide) ?_)))
            refine V_cV3v (M' := M_X11_setCover) (d' := 4) dX11_engaged_75 (Or.inl ml_X11_296) kb_X11_setCover (by first | assumption | exact ⟨by decide, rfl⟩) (by first | decide | omega) (by simp [Value.category]) ⟨by decide, by decide⟩ ?_
            have hset := mr_setCover (E := E) (I := I2) (J := J2) (co := co) (dr := dr) (cc := cc) (a1 := a1) (a2 := a2) (t := 8 * p + i) (v := K 3 ((8 * p + i) / 8) ||| 2 ^ ((8 * p + i) % 8)) (b := true) hB hB2 hM2 hR2 v2 v3 rfl (Post := fun v n' I' J' R' => v = none ∧ V E d M_X11_engaged (MK t len K D D1 D2 kp tl (some (.int (if cl w = 0 then engV (eng K kk (ncv K)) else match eng K kk (ncv K) with | none => -4 | some r => nI r.2))) I J (RR co dr cc a1 a2)) 78 [some (.ref 70), some (.int (nI kk)), some (.int w), some (.int (engV (eng K kk (fb_ct (cvb K) (8 * p + i))))), some (.int (nI (enF (eng K kk (fb_ct (cvb K) (8 * p + i)))))), some (.int (nI p)), some (.int (nI i)), none] [] n' 0 0 I' J' R')
            rw [et8, em8] at hset
            refine hset (fun I3 f3 hM3 hR3 => ⟨rfl, ?_⟩)
            have hM3 : MB I3 (cvK K (8 * p + i)) := by unfold cvK; rw [et8, em8]; exact hM3
            have hR3 : MR I3 (cvK K (8 * p + i)) := by unfold cvK; rw [et8, em8]; exact hR3
            have f3' : FrE I I3 := f2.trans (FrE.sc f3)
            refine V_aload_n dX11_engaged_78 rfl rfl (V_iload_n dX11_engaged_79 rfl rfl ?_)
            refine V_cV1i (M' := M_X11_weakOf) (d' := 5) dX11_engaged_80 (Or.inl ml_X11_290) kb_X11_weakOf (by first | assumption | exact ⟨by decide, rfl⟩) (by first | decide | omega) (by simp [Value.category]) ⟨by decide, by decide⟩ ?_
            refine mr_weakOf hB2 hM3 hR3 (f3'.MDX hD.1) hDB (by omega) (fun I4 J4 f4 j4 _ => ⟨_, rfl, ?_⟩)
            rw [wW_cvK hc]
            have f4' := f3'.trans f4.toE
            have j4' : FJ J J4 := j2.trans j4
            have hM4 := f4.MB hB2 hM3
            have hR4 := f4.MR hR3
            have hbk := cvK_back (K := K) (t := 8 * p + i) k1
            refine V_istore_7 dX11_engaged_83 (by decide) rfl (V_aload_n dX11_engaged_85 rfl rfl (V_iload dX11_engaged_86 rfl (V_iload dX11_engaged_88 rfl (V_iconst (v := 0) dX11_engaged_90 (by decide) ?_))))
            refine V_cV3v (M' := M_X11_setCover) (d' := 4) dX11_engaged_91 (Or.inl ml_X11_296) kb_X11_setCover (by first | assumption | exact ⟨by decide, rfl⟩) (by first | decide | omega) (by simp [Value.category]) ⟨by decide, by decide⟩ ?_
            have hun := mr_setCover (E := E) (I := I4) (J := J4) (co := co) (dr := dr) (cc := cc) (a1 := a1) (a2 := a2) (K := cvK K (8 * p + i)) (t := 8 * p + i) (v := andn (cvK K (8 * p + i) 3 ((8 * p + i) / 8)) (2 ^ ((8 * p + i) % 8))) (b := false) hB2 (by rw [hbk]; exact hB) hM4 hR4 (by rw [cvK_ne (by decide)]; exact v2) (by rw [cvK_ne (by decide)]; exact v3) rfl (Post := fun v n' I' J' R' => v = none ∧ V E d M_X11_engaged (MK t len K D D1 D2 kp tl (some (.int (if cl w = 0 then engV (eng K kk (ncv K)) else match eng K kk (ncv K) with | none => -4 | some r => nI r.2))) I J (RR co dr cc a1 a2)) 94 [some (.ref 70), some (.int (nI kk)), some (.int w), some (.int (engV (eng K kk (fb_ct (cvb K) (8 * p + i))))), some (.int (nI (enF (eng K kk (fb_ct (cvb K) (8 * p + i)))))), some (.int (nI p)), some (.int (nI i)), some (.int (nI (wt K kk (8 * p + i))))] [] n' 0 0 I' J' R')
            rw [hbk, et8, em8] at hun
            refine hun (fun I5 f5 hM5 hR5 => ⟨rfl, ?_⟩)
            have f5' := f4'.trans (FrE.sc f5)
            have hwu := hwt (8 * p + i)
            have t105 : eng K kk (fb_ct (cvb K) (8 * p + i) + 1) = some (8 * p + i, wt K kk (8 * p + i)) → ∀ o3 o4, V E d M_X11_engaged (MK t len K D D1 D2 kp tl (some (.int (if cl w = 0 then engV (eng K kk (ncv K)) else match eng K kk (ncv K) with | none => -4 | some r => nI r.2))) I J (RR co dr cc a1 a2)) 105 [some (.ref 70), some (.int (nI kk)), some (.int w), o3, o4, some (.int (nI p)), some (.int (nI i)), some (.int (nI (wt K kk (8 * p + i))))] [] NC 0 0 I5 J4 (RR co dr cc a1 a2) := by
              intro he o3 o4
              refine V_bipush (v := 10) dX11_engaged_105 (by decide) (V_iload dX11_engaged_107 rfl (V_imul dX11_engaged_109 (V_iload dX11_engaged_110 rfl (V_iadd dX11_engaged_112 (V_istore_3 dX11_engaged_113 (by decide) rfl ?_)))))
              refine V_iload dX11_engaged_114 rfl (V_istore_4 dX11_engaged_116 (by decide) rfl (V_iinc_6 (w := 1) dX11_engaged_118 (by decide) (by decide) rfl (V_goto (tgt := 47) dX11_engaged_121 (by decide) ?_)))
              rw [show (10 : Int32) = nI 10 from rfl, pk_mul, nI_add, nI_1]
              have h9 := ih2 I5 J4 f5' j4' hM5 hR5
              rw [← Nat.add_assoc, ect, he] at h9
              have e9 : engV (some (8 * p + i, wt K kk (8 * p + i))) = nI (10 * p + i) := by
                show nI (10 * ((8 * p + i) / 8) + (8 * p + i) % 8) = _
                rw [et8, em8]
              rw [e9] at h9
              exact V_forget h9 (by simp [lessb, enF])
            cases he : eng K kk (fb_ct (cvb K) (8 * p + i)) with
            | none =>
              rw [he] at eeng
              refine V_iload_n dX11_engaged_94 rfl rfl ?_
              refine V_if_lt_t (tgt := 105) dX11_engaged_95 (by decide) (by decide) ?_
              exact t105 eeng _ _
            | some r =>
              rw [he] at eeng t118
              have hri := eng_in (show fb_ct (cvb K) (8 * p + i) ≤ ncv K from fb_ct_mono _ (by omega)) r he
              have eeng : eng K kk (fb_ct (cvb K) (8 * p + i) + 1) = if wt K kk (8 * p + i) < r.2 then some (8 * p + i, wt K kk (8 * p + i)) else some r := eeng
              by_cases hlt : wt K kk (8 * p + i) < r.2
              · rw [if_pos hlt] at eeng
                refine V_iload_n dX11_engaged_94 rfl rfl ?_
                refine V_if_lt_f (tgt := 105) dX11_engaged_95 (by decide) (nI_nn (by omega)) ?_
                refine V_iload dX11_engaged_98 rfl (V_iload dX11_engaged_100 rfl ?_)
                refine V_icmp_ge_f (tgt := 118) dX11_engaged_102 (by decide) (nI_ge (b := r.2) hlt (by omega)) ?_
                exact t105 eeng _ _
              · rw [if_neg hlt] at eeng
                refine V_iload_n dX11_engaged_94 rfl rfl ?_
                refine V_if_lt_f (tgt := 105) dX11_engaged_95 (by decide) (nI_nn (by omega)) ?_
                refine V_iload dX11_engaged_98 rfl (V_iload dX11_engaged_100 rfl ?_)
                refine V_icmp_ge_t (tgt := 118) dX11_engaged_102 (by decide) (nI_le (a := r.2) (by omega) (by omega)) ?_
                exact t118 I5 J4 _ (by rw [ect]; exact eeng) f5' j4' hM5 hR5
      exact key2 0 (Nat.zero_le _) I1 J1 f1 j1 hM1 hR1
  exact key 0 (Nat.zero_le _) I J FrE.refl FJ.refl hM hR
end
