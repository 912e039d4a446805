/-! Calls of the reference: night, run -/
def FrP (I0 I : TI) : Prop := ∀ x y, x ≠ 95 → x ≠ 96 → x ≠ 97 → x ≠ 104 → x ≠ 105 → (x ≠ 70 ∨ y ≠ 31) → (x ≠ 88 ∨ 80 ≤ y) → (x ≠ 90 ∨ 10 ≤ y) → (x ≠ 89 ∨ 1 ≤ y) → I x y = I0 x y
theorem FrP.trans {I I1 I2 : TI} (g : FrP I I1) (h : FrP I1 I2) : FrP I I2 := fun x y a b c d e f i j k => (h x y a b c d e f i j k).trans (g x y a b c d e f i j k)
theorem FrC.P {I I1 : TI} (g : FrC I I1) : FrP I I1 := fun x y a b c _ _ e _ _ _ => g x y a b c e
theorem FrP.MB {I I1 : TI} {K : KT} (g : FrP I I1) (hB : KB K) (hM : MB I K) : MB I1 K := hM.all hB (fun x y a b => g x y (by omega) (by omega) (by omega) (by omega) (by omega) (by omega) (by omega) (by omega) (by omega))
theorem FrP.MR {I I1 : TI} {K : KT} (g : FrP I I1) (hM : MR I K) : MR I1 K := hM.of (fun y => g _ _ (by omega) (by omega) (by omega) (by omega) (by omega) (by omega) (by omega) (by omega) (by omega)) (fun y => g _ _ (by omega) (by omega) (by omega) (by omega) (by omega) (by omega) (by omega) (by omega) (by omega))
theorem FrP.lo {I I1 : TI} (g : FrP I I1) : ∀ x y, x < 70 → I1 x y = I x y := fun x y a => g x y (by omega) (by omega) (by omega) (by omega) (by omega) (by omega) (by omega) (by omega) (by omega)
theorem FrP.MS {I I' : TI} {t : Nat → Nat} {len : Nat} {K : KT} {D D' D1 D2 : Di} {kp : Nat} {tl : Nat → Int32} (g : FrP I I') (h : MS t len K D D1 D2 kp tl I) (hD' : MDX I' 0 D') : MS t len K D' D1 D2 kp tl I' := by
  obtain ⟨hB, hM, hR, hT, hD⟩ := h
  refine ⟨hB, g.MB hB hM, g.MR hR, hT.of (fun y => g _ _ (by omega) (by omega) (by omega) (by omega) (by omega) (by omega) (by omega) (by omega) (by omega)) (g _ _ (by omega) (by omega) (by omega) (by omega) (by omega) (by omega) (by omega) (by omega) (by omega)), hD', fun k => ?_, fun k => ?_, by rw [g _ _ (by omega) (by omega) (by omega) (by omega) (by omega) (by omega) (by omega) (by omega) (by omega)]; exact hD.2.2.2.1, fun p hp => by rw [g _ _ (by omega) (by omega) (by omega) (by omega) (by omega) (by omega) (by omega) (by omega) (by omega)]; exact hD.2.2.2.2 p hp⟩
  · obtain ⟨x1, x2, x3⟩ := hD.2.1 k
    exact ⟨by rw [g _ _ (by omega) (by omega) (by omega) (by omega) (by omega) (by omega) (by omega) (by omega) (by omega)]; exact x1, fun j hj => by rw [g _ _ (by omega) (by omega) (by omega) (by omega) (by omega) (by omega) (by omega) (by omega) (by omega)]; exact x2 j hj, fun q hq => by rw [g _ _ (by omega) (by omega) (by omega) (by omega) (by omega) (by omega) (by omega) (by omega) (by omega)]; exact x3 q hq⟩
  · obtain ⟨x1, x2, x3⟩ := hD.2.2.1 k
    exact ⟨by rw [g _ _ (by omega) (by omega) (by omega) (by omega) (by omega) (by omega) (by omega) (by omega) (by omega)]; exact x1, fun j hj => by rw [g _ _ (by omega) (by omega) (by omega) (by omega) (by omega) (by omega) (by omega) (by omega) (by omega)]; exact x2 j hj, fun q hq => by rw [g _ _ (by omega) (by omega) (by omega) (by omega) (by omega) (by omega) (by omega) (by omega) (by omega)]; exact x3 q hq⟩
def ntP (K : KT) (D : Di) (off : Nat) : Di := (D.1 + 1, ntS K (lea K off 0 D.1 D.2.1).2 D.1 D.2.1 D.2.2 (K 0 0))
theorem ntS_le {K : KT} {bs : List Nat} {td : Nat} {sd : Nat → Nat} {ow : Nat → Int32} (h : ∀ j, sd j ≤ td) : ∀ p j, (ntS K bs td sd ow p).1 j ≤ td
  | 0, j => h j
  | p + 1, j => by
    show pnSd (K 0 1) td (ntS K bs td sd ow p).1 p (plB K bs p) j ≤ td
    unfold pnSd
    split
    · exact Nat.le_refl _
    · exact ntS_le h p j
theorem DB_ntP {K : KT} {D : Di} {off : Nat} (h : DB D.1 D.2.1) (h2 : D.1 < 100000) : DB (ntP K D off).1 (ntP K D off).2.1 := ⟨by show D.1 + 1 ≤ 100000; omega, fun j => Nat.le_trans (ntS_le h.2 (K 0 0) j) (by show D.1 ≤ D.1 + 1; omega)⟩
theorem mk_ne0 {f : Nat → Bool} {k : Nat} (h : f k = true) : mk f (k + 1) ≠ 0 := fun z => by
  have := mk_tb f (k + 1) k
  rw [z, h] at this
  simp at this
theorem mk_no {f : Nat → Bool} {k : Nat} (h : f k = false) : mk f (k + 1) = mk f k := by
  rw [mk, if_neg (by rw [h]; decide)]
theorem plB_tb (K : KT) (bs : List Nat) (p i : Nat) : (plB K bs p).testBit i = (decide (i < K 0 1) && decide (bs.getD i 0 = p + 1)) := mk_tb _ _ _
section
variable {E : En} {I : TI} {J : TJ} {co dr : Nat} {cc a1 a2 : Option Nat} {Post : PT} {K : KT} {D : Di} {off : Nat}
theorem mr_play (hB : KB K) (hM : MB I K) (hR : MR I K) (hD : MDX I 0 D) (hDB : DB D.1 D.2.1) (hoff : off < 2 ^ 31) (Kn : metB K off 0 = false → ∀ I' J', FrC I I' → FJ J J' → Post (some (.int (-4))) NC I' J' (RR co dr cc a1 a2)) (Ks : metB K off 0 = true → (lea K off 0 D.1 D.2.1).1 < 1000000 → ∀ I' J', FrP I I' → FJ J J' → (∀ y, I' 104 y = I 104 y) → (∀ y, I' 105 y = I 105 y) → MDX I' 0 (ntP K D off) → Post (some (.int (nI (lea K off 0 D.1 D.2.1).1))) NC I' J' (RR co dr cc a1 a2)) : Cal E 5 M_X11_play [.ref 70, .int (nI off)] NC I J (RR co dr cc a1 a2) Post := by
  have hP := hB.1.1
  have hQ := hB.1.2.1
  refine Cal_of kn_X11_play rfl (Nat.le_of_ble_eq_true rfl) ?_
  refine V_aload_n dX11_play_0 rfl rfl (V_iload_n dX11_play_1 rfl rfl (V_iconst (v := 0) dX11_play_2 (by decide) (V_iconst (v := 1) dX11_play_3 (by decide) ?_)))
  refine V_cV3i (M' := M_X11_cast) (d' := 4) dX11_play_4 (Or.inl ml_X11_235) kb_X11_cast (by first | assumption | exact ⟨by decide, rfl⟩) (by first | decide | omega) (by simp [Value.category]) ⟨by decide, by decide⟩ ?_
  refine mr_cast (all := true) (cut := 0) hB hM hR hD hDB hoff (by decide) (fun z => by cases z) (fun _ I1 J1 g1 g2 g3 g4 => ⟨_, rfl, ?_⟩)
  have hmm := lea_met hB off 0 D.1 D.2.1
  cases hm : metB K off 0
  · refine V_if_ne_f (tgt := 13) dX11_play_7 (by decide) (rfl) ?_
    refine V_bipush (v := (-4)) dX11_play_10 (by decide) ?_
    refine V_ireturn dX11_play_12 rfl rfl rfl (by decide) (by decide) ?_
    exact Kn hm I1 J1 g1 g2
  · rw [hm] at hmm
    have hlt : (lea K off 0 D.1 D.2.1).1 < 1000000 := of_decide_eq_true hmm.symm
    have hle := lea_le hB hlt
    have hM1 := g1.MB hB hM
    have hD1 := g1.MDX hD
    have Ks := Ks hm hlt
    rcases g4 with ⟨z, _⟩ | ⟨_, y31, y96⟩
    · exact absurd hlt (by omega)
    unfold ntP at Ks
    generalize (lea K off 0 D.1 D.2.1).2 = bs at *
    generalize (lea K off 0 D.1 D.2.1).1 = tr at *
    refine V_if_ne_t (tgt := 13) dX11_play_7 (by decide) (by decide) ?_
    refine V_iconst (v := 0) dX11_play_13 (by decide) (V_istore_2 dX11_play_14 (by decide) rfl ?_)
    have key : ∀ p, p ≤ K 0 0 → ∀ I2, (∀ x y, x ≠ 88 → x ≠ 90 → I2 x y = I1 x y) → (∀ y, 80 ≤ y → I2 88 y = I1 88 y) → (∀ y, 10 ≤ y → I2 90 y = I1 90 y) → (∀ j, j < 80 → I2 88 j = nI ((ntS K bs D.1 D.2.1 D.2.2 p).1 j)) → (∀ q, q < 10 → I2 90 q = (ntS K bs D.1 D.2.1 D.2.2 p).2 q) → V E 5 M_X11_play Post 15 [some (.ref 70), some (.int (nI off)), some (.int (nI p)), none, none, none] [] NC 0 0 I2 J1 (RR co dr cc a1 a2) := by
      refine loop_up (K 0 0) ?_ ?_
      · intro I2 f1 f2 f3 f4 f5
        have h89 : I2 89 0 = nI D.1 := by rw [f1 _ _ (by omega) (by omega)]; exact hD1.td
        refine V_iload_n dX11_play_15 rfl rfl (V_aload_n dX11_play_16 rfl rfl ?_)
        refine V_getR dX11_play_17 fl_X11_13 (by first | assumption | exact ⟨by decide, rfl⟩) (by first | assumption | rfl) ?_
        refine V_iconst (v := 0) dX11_play_20 (by decide) ?_
        refine V_ial dX11_play_21 (by first | assumption | exact ⟨by decide, rfl⟩) (show ix _ 0 _ from ⟨rfl, by decide⟩) ?_
        refine V_icmp_ge_t (tgt := 150) dX11_play_22 (by decide) (by rw [f1 _ _ (by omega) (by omega), hM1.n0]; exact nI_le (by omega) (by omega)) ?_
        refine V_aload_n dX11_play_150 rfl rfl ?_
        refine V_getR dX11_play_151 fl_X11_64 (by first | assumption | exact ⟨by decide, rfl⟩) (by first | assumption | rfl) ?_
        refine V_iconst (v := 0) dX11_play_154 (by decide) (V_dup2 dX11_play_155 rfl rfl ?_)
        refine V_ial dX11_play_156 (by first | assumption | exact ⟨by decide, rfl⟩) (show ix _ 0 _ from ⟨rfl, by decide⟩) ?_
        refine V_iconst (v := 1) dX11_play_157 (by decide) (V_iadd dX11_play_158 ?_)
        refine V_ias dX11_play_159 (by first | assumption | exact ⟨by decide, rfl⟩) (show ix _ 0 _ from ⟨rfl, by decide⟩) ?_
        refine V_aload_n dX11_play_160 rfl rfl ?_
        refine V_getI dX11_play_161 fl_X11_216 (by first | assumption | exact ⟨by decide, rfl⟩) ?_
        refine V_ireturn dX11_play_164 rfl rfl rfl (by decide) (by decide) ?_
        rw [u2n (by omega), f1 70 31 (by omega) (by omega), y31, h89, nI_1]
        refine Ks _ J1 (fun x y a b c e1 e2 e f i j => ?_) g2 (fun y => ?_) (fun y => ?_) (MDX.mk0 u2e (fun j hj => ?_) (fun q hq => ?_))
        · rw [u2n (by omega)]
          by_cases hx : x = 88
          · subst hx; rw [f2 y (by omega)]; exact g1 _ _ a b c e
          · by_cases hx2 : x = 90
            · subst hx2; rw [f3 y (by omega)]; exact g1 _ _ a b c e
            · rw [f1 x y hx hx2]; exact g1 _ _ a b c e
        · rw [u2n (by omega), f1 _ _ (by omega) (by omega)]; exact g1 _ _ (by omega) (by omega) (by omega) (by omega)
        · rw [u2n (by omega), f1 _ _ (by omega) (by omega)]; exact g1 _ _ (by omega) (by omega) (by omega) (by omega)
        · rw [u2n (by omega)]; exact f4 j hj
        · rw [u2n (by omega)]; exact f5 q hq
      · intro p hp ih I2 f1 f2 f3 f4 f5
        have hM2 : MB I2 K := hM1.all hB (fun x y a b => f1 x y (by omega) (by omega))
        have hsd := plB_tb K bs p
        generalize hsd9 : (ntS K bs D.1 D.2.1 D.2.2 p).1 = sd at *
        generalize how9 : (ntS K bs D.1 D.2.1 D.2.2 p).2 = ow at *
        have eS : ntS K bs D.1 D.2.1 D.2.2 (p + 1) = (pnSd (K 0 1) D.1 sd p (plB K bs p), pnOw K ow p (plB K bs p)) := by rw [ntS, hsd9, how9]
        rw [eS] at ih
        refine V_iload_n dX11_play_15 rfl rfl (V_aload_n dX11_play_16 rfl rfl ?_)
        refine V_getR dX11_play_17 fl_X11_13 (by first | assumption | exact ⟨by decide, rfl⟩) (by first | assumption | rfl) ?_
        refine V_iconst (v := 0) dX11_play_20 (by decide) ?_
        refine V_ial dX11_play_21 (by first | assumption | exact ⟨by decide, rfl⟩) (show ix _ 0 _ from ⟨rfl, by decide⟩) ?_
        refine V_icmp_ge_f (tgt := 150) dX11_play_22 (by decide) (by rw [hM2.n0]; exact nI_ge hp (by omega)) ?_
        refine V_iconst (v := 0) dX11_play_25 (by decide) (V_istore_3 dX11_play_26 (by decide) rfl (V_iconst (v := 0) dX11_play_27 (by decide) (V_istore_4 dX11_play_28 (by decide) rfl (V_iconst (v := 0) dX11_play_30 (by decide) (V_istore_5 dX11_play_31 (by decide) rfl ?_)))))
        have key2 : ∀ i, i ≤ K 0 1 → ∀ I3, (∀ x y, x ≠ 88 → I3 x y = I2 x y) → (∀ y, 80 ≤ y → I3 88 y = I2 88 y) → (∀ j, j < 80 → I3 88 j = nI (pnSd i D.1 sd p (plB K bs p) j)) → V E 5 M_X11_play Post 33 [some (.ref 70), some (.int (nI off)), some (.int (nI p)), some (.int (b2i (decide (mk (fun i => decide (bs.getD i 0 = p + 1)) i ≠ 0)))), some (.int (nI (fb_sm (fun i => if bs.getD i 0 = p + 1 ∧ K 7 i ≠ p + 1 then K 6 i else 0) i))), some (.int (nI i))] [] NC 0 0 I3 J1 (RR co dr cc a1 a2) := by
          refine loop_up (K 0 1) ?_ ?_
          · intro I3 k1 k2 k3
            have hM3 : MB I3 K := hM2.all hB (fun x y a b => k1 x y (by omega))
            have hstr : fb_sm (fun i => if bs.getD i 0 = p + 1 ∧ K 7 i ≠ p + 1 then K 6 i else 0) (K 0 1) = lsum K (andn (plB K bs p) (mk (fun i => decide (K 7 i = p + 1)) (K 0 1))) := by
              unfold lsum
              refine fb_sm_cong (fun i hi => ?_)
              rw [andn_tb, hsd, mk_tb]
              by_cases c1 : bs.getD i 0 = p + 1 <;> by_cases c2 : K 7 i = p + 1 <;> simp [hi, c1, c2]
            have hls := lsum_le hB (andn (plB K bs p) (mk (fun i => decide (K 7 i = p + 1)) (K 0 1)))
            have h07 : K 0 7 ≤ 999 := hB.1.2.2.2.2.2.2.2.1
            have h08 : K 0 8 ≤ 99 := hB.1.2.2.2.2.2.2.2.2
            have hpr : K 0 8 * lsum K (andn (plB K bs p) (mk (fun i => decide (K 7 i = p + 1)) (K 0 1))) ≤ 99 * 7992 := Nat.mul_le_mul h08 hls
            rw [hstr]
            have emk : mk (fun i => decide (bs.getD i 0 = p + 1)) (K 0 1) = plB K bs p := rfl
            rw [emk]
            have h90 : I3 90 p = ow p := by rw [k1 _ _ (by omega)]; exact f5 p (by omega)
            have fin : ∀ v : Int32, v = pnOw K ow p (plB K bs p) p → V E 5 M_X11_play Post 15 [some (.ref 70), some (.int (nI off)), some (.int (nI (p + 1))), none, none, none] [] NC 0 0 (up2 I3 90 p v) J1 (RR co dr cc a1 a2) := by
              intro v hv
              refine ih _ (fun x y a b => by rw [u2n (by omega), k1 x y a]; exact f1 x y a b) (fun y hy => by rw [u2n (by omega), k2 y hy]; exact f2 y hy) (fun y hy => by rw [u2n (by omega), k1 _ _ (by omega)]; exact f3 y hy) (fun j hj => by rw [u2n (by omega)]; exact k3 j hj) (fun q hq => ?_)
              by_cases hqp : q = p
              · rw [hqp, u2e, hv]
              · rw [u2n (by omega), k1 _ _ (by omega), f5 q hq]
                show ow q = if q = p ∧ plB K bs p ≠ 0 then _ else ow q
                rw [if_neg (fun z => hqp z.1)]
            by_cases ha : plB K bs p = 0
            · refine V_iload dX11_play_33 rfl (V_aload_n dX11_play_35 rfl rfl ?_)
              refine V_getR dX11_play_36 fl_X11_22 (by first | assumption | exact ⟨by decide, rfl⟩) (by first | assumption | rfl) ?_
              refine V_iconst (v := 0) dX11_play_39 (by decide) ?_
              refine V_ial dX11_play_40 (by first | assumption | exact ⟨by decide, rfl⟩) (show ix _ 0 _ from ⟨rfl, by decide⟩) ?_
              refine V_icmp_ge_t (tgt := 108) dX11_play_41 (by decide) (by rw [hM3.n1]; exact nI_le (by omega) (by omega)) ?_
              refine V_aload_n dX11_play_108 rfl rfl ?_
              refine V_getR dX11_play_109 fl_X11_67 (by first | assumption | exact ⟨by decide, rfl⟩) (by first | assumption | rfl) ?_
              refine V_iload_n dX11_play_112 rfl rfl (V_dup2 dX11_play_113 rfl rfl ?_)
              refine V_ial dX11_play_114 (by first | assumption | exact ⟨by decide, rfl⟩) (show ix _ p 30 from ⟨rfl, by omega⟩) ?_
              refine V_iload_n dX11_play_115 rfl rfl ?_
              refine V_if_eq_t (tgt := 141) dX11_play_116 (by decide) (by rw [ha]; rfl) ?_
              refine V_iconst (v := 0) dX11_play_141 (by decide) (V_iadd dX11_play_142 ?_)
              refine V_ias dX11_play_143 (by first | assumption | exact ⟨by decide, rfl⟩) (show ix _ p 30 from ⟨rfl, by omega⟩) ?_
              refine V_iinc_2 (w := 1) dX11_play_144 (by decide) (by decide) rfl (V_goto (tgt := 15) dX11_play_147 (by decide) ?_)
              rw [h90, Int32.add_zero, nI_1]
              exact V_forget (fin _ (by unfold pnOw; rw [if_neg (fun z => z.2 ha)])) (by simp [lessb])
            · refine V_iload dX11_play_33 rfl (V_aload_n dX11_play_35 rfl rfl ?_)
              refine V_getR dX11_play_36 fl_X11_22 (by first | assumption | exact ⟨by decide, rfl⟩) (by first | assumption | rfl) ?_
              refine V_iconst (v := 0) dX11_play_39 (by decide) ?_
              refine V_ial dX11_play_40 (by first | assumption | exact ⟨by decide, rfl⟩) (show ix _ 0 _ from ⟨rfl, by decide⟩) ?_
              refine V_icmp_ge_t (tgt := 108) dX11_play_41 (by decide) (by rw [hM3.n1]; exact nI_le (by omega) (by omega)) ?_
              refine V_aload_n dX11_play_108 rfl rfl ?_
              refine V_getR dX11_play_109 fl_X11_67 (by first | assumption | exact ⟨by decide, rfl⟩) (by first | assumption | rfl) ?_
              refine V_iload_n dX11_play_112 rfl rfl (V_dup2 dX11_play_113 rfl rfl ?_)
              refine V_ial dX11_play_114 (by first | assumption | exact ⟨by decide, rfl⟩) (show ix _ p 30 from ⟨rfl, by omega⟩) ?_
              refine V_iload_n dX11_play_115 rfl rfl ?_
              refine V_if_eq_f (tgt := 141) dX11_play_116 (by decide) (by rw [decide_eq_true ha]; decide) ?_
              refine V_aload_n dX11_play_119 rfl rfl ?_
              refine V_getR dX11_play_120 fl_X11_58 (by first | assumption | exact ⟨by decide, rfl⟩) (by first | assumption | rfl) ?_
              refine V_iconst (v := 3) dX11_play_123 (by decide) ?_
              refine V_ial dX11_play_124 (by first | assumption | exact ⟨by decide, rfl⟩) (show ix _ 3 _ from ⟨rfl, by decide⟩) ?_
              refine V_aload_n dX11_play_125 rfl rfl ?_
              refine V_getR dX11_play_126 fl_X11_58 (by first | assumption | exact ⟨by decide, rfl⟩) (by first | assumption | rfl) ?_
              refine V_iconst (v := 4) dX11_play_129 (by decide) ?_
              refine V_ial dX11_play_130 (by first | assumption | exact ⟨by decide, rfl⟩) (show ix _ 4 _ from ⟨rfl, by decide⟩) ?_
              refine V_iload dX11_play_131 rfl (V_imul dX11_play_133 (V_bipush (v := 10) dX11_play_134 (by decide) (V_idiv dX11_play_136 (by decide) (V_iadd dX11_play_137 (V_goto (tgt := 142) dX11_play_138 (by decide) ?_)))))
              refine V_iadd dX11_play_142 ?_
              refine V_ias dX11_play_143 (by first | assumption | exact ⟨by decide, rfl⟩) (show ix _ p 30 from ⟨rfl, by omega⟩) ?_
              refine V_iinc_2 (w := 1) dX11_play_144 (by decide) (by decide) rfl (V_goto (tgt := 15) dX11_play_147 (by decide) ?_)
              rw [h90, hM3.n7, hM3.n8, nI_1, show (10 : Int32) = nI 10 from rfl, pk_mul, pk_div (by omega) (by omega) (by omega), nI_add]
              exact V_forget (fin _ (by unfold pnOw pay; rw [if_pos ⟨rfl, ha⟩])) (by simp [lessb])
          · intro i hi ih2 I3 k1 k2 k3
            rw [fb_sm_succ] at ih2
            have hM3 : MB I3 K := hM2.all hB (fun x y a b => k1 x y (by omega))
            have h96 : I3 96 i = owv (bs.getD i 0) := by rw [k1 _ _ (by omega), f1 _ _ (by omega) (by omega)]; exact y96 i hi
            have h89 : I3 89 0 = nI D.1 := by rw [k1 _ _ (by omega), f1 _ _ (by omega) (by omega)]; exact hD1.td
            have hbl := hle i
            have ho := hB.2.2.2.2.1 i
            by_cases hb : bs.getD i 0 = p + 1
            · have hon : decide (mk (fun i => decide (bs.getD i 0 = p + 1)) (i + 1) ≠ 0) = true := decide_eq_true (mk_ne0 (f := fun i => decide (bs.getD i 0 = p + 1)) (decide_eq_true hb))
              rw [hon] at ih2
              have t81 : ∀ v : Nat, v = (if bs.getD i 0 = p + 1 ∧ K 7 i ≠ p + 1 then K 6 i else 0) → V E 5 M_X11_play Post 81 [some (.ref 70), some (.int (nI off)), some (.int (nI p)), some (.int 1), some (.int (nI (fb_sm (fun i => if bs.getD i 0 = p + 1 ∧ K 7 i ≠ p + 1 then K 6 i else 0) i))), some (.int (nI i))] [.int (nI v), .int (nI (fb_sm (fun i => if bs.getD i 0 = p + 1 ∧ K 7 i ≠ p + 1 then K 6 i else 0) i))] NC 0 0 I3 J1 (RR co dr cc a1 a2) := by
                intro v hv
                refine V_iadd dX11_play_81 (V_istore_4 dX11_play_82 (by decide) rfl (V_aload_n dX11_play_84 rfl rfl ?_))
                refine V_getR dX11_play_85 fl_X11_61 (by first | assumption | exact ⟨by decide, rfl⟩) (by first | assumption | rfl) ?_
                refine V_bipush (v := 8) dX11_play_88 (by decide) (V_iload_n dX11_play_90 rfl rfl (V_imul dX11_play_91 (V_iload dX11_play_92 rfl (V_iadd dX11_play_94 (V_aload_n dX11_play_95 rfl rfl ?_)))))
                refine V_getR dX11_play_96 fl_X11_64 (by first | assumption | exact ⟨by decide, rfl⟩) (by first | assumption | rfl) ?_
                refine V_iconst (v := 0) dX11_play_99 (by decide) ?_
                refine V_ial dX11_play_100 (by first | assumption | exact ⟨by decide, rfl⟩) (show ix _ 0 _ from ⟨rfl, by decide⟩) ?_
                refine V_ias dX11_play_101 (by first | assumption | exact ⟨by decide, rfl⟩) (show ix _ (8 * p + i) 240 from ixm (c := 8) (by omega)) ?_
                refine V_iinc_5 (w := 1) dX11_play_102 (by decide) (by decide) rfl (V_goto (tgt := 33) dX11_play_105 (by decide) ?_)
                rw [nI_add, hv, nI_1, h89]
                refine ih2 _ (fun x y a => by rw [u2n (by omega)]; exact k1 x y a) (fun y hy => by rw [u2n (by omega)]; exact k2 y hy) (fun j hj => ?_)
                by_cases hj2 : j = 8 * p + i
                · rw [hj2, u2e]
                  unfold pnSd
                  rw [if_pos ⟨by omega, by omega, by rw [show (8 * p + i) % 8 = i by omega, hsd, decide_eq_true hi, decide_eq_true hb]; rfl⟩]
                · rw [u2n (by omega), k3 j hj]
                  unfold pnSd
                  by_cases hc : j / 8 = p ∧ j % 8 < i ∧ (plB K bs p).testBit (j % 8) = true
                  · rw [if_pos hc, if_pos ⟨hc.1, by omega, hc.2.2⟩]
                  · rw [if_neg hc, if_neg (fun z => hc ⟨z.1, by omega, z.2.2⟩)]
              by_cases hw : K 7 i = p + 1
              · refine V_iload dX11_play_33 rfl (V_aload_n dX11_play_35 rfl rfl ?_)
                refine V_getR dX11_play_36 fl_X11_22 (by first | assumption | exact ⟨by decide, rfl⟩) (by first | assumption | rfl) ?_
                refine V_iconst (v := 0) dX11_play_39 (by decide) ?_
                refine V_ial dX11_play_40 (by first | assumption | exact ⟨by decide, rfl⟩) (show ix _ 0 _ from ⟨rfl, by decide⟩) ?_
                refine V_icmp_ge_f (tgt := 108) dX11_play_41 (by decide) (by rw [hM3.n1]; exact nI_ge hi (by omega)) ?_
                refine V_aload_n dX11_play_44 rfl rfl ?_
                refine V_getR dX11_play_45 fl_X11_85 (by first | assumption | exact ⟨by decide, rfl⟩) (by first | assumption | rfl) ?_
                refine V_iload dX11_play_48 rfl ?_
                refine V_ial dX11_play_50 (by first | assumption | exact ⟨by decide, rfl⟩) (show ix _ i 8 from ⟨rfl, by omega⟩) ?_
                refine V_iload_n dX11_play_51 rfl rfl ?_
                refine V_icmp_ne_f (tgt := 102) dX11_play_52 (by decide) (by rw [h96]; exact (owv_eq (by omega) (by omega)).mpr hb) ?_
                refine V_iconst (v := 1) dX11_play_55 (by decide) (V_istore_3 dX11_play_56 (by decide) rfl (V_iload dX11_play_57 rfl (V_aload_n dX11_play_59 rfl rfl ?_)))
                refine V_getR dX11_play_60 fl_X11_37 (by first | assumption | exact ⟨by decide, rfl⟩) (by first | assumption | rfl) ?_
                refine V_iload dX11_play_63 rfl ?_
                refine V_ial dX11_play_65 (by first | assumption | exact ⟨by decide, rfl⟩) (show ix _ i 16 from ⟨rfl, by omega⟩) ?_
                refine V_iload_n dX11_play_66 rfl rfl ?_
                refine V_icmp_ne_f (tgt := 74) dX11_play_67 (by decide) (by rw [hM3.own (by omega)]; exact (owv_eq (by omega) (by omega)).mpr hw) ?_
                refine V_iconst (v := 0) dX11_play_70 (by decide) (V_goto (tgt := 81) dX11_play_71 (by decide) ?_)
                exact t81 0 (by rw [if_neg (fun z => z.2 hw)])
              · refine V_iload dX11_play_33 rfl (V_aload_n dX11_play_35 rfl rfl ?_)
                refine V_getR dX11_play_36 fl_X11_22 (by first | assumption | exact ⟨by decide, rfl⟩) (by first | assumption | rfl) ?_
                refine V_iconst (v := 0) dX11_play_39 (by decide) ?_
                refine V_ial dX11_play_40 (by first | assumption | exact ⟨by decide, rfl⟩) (show ix _ 0 _ from ⟨rfl, by decide⟩) ?_
                refine V_icmp_ge_f (tgt := 108) dX11_play_41 (by decide) (by rw [hM3.n1]; exact nI_ge hi (by omega)) ?_
                refine V_aload_n dX11_play_44 rfl rfl ?_
                refine V_getR dX11_play_45 fl_X11_85 (by first | assumption | exact ⟨by decide, rfl⟩) (by first | assumption | rfl) ?_
                refine V_iload dX11_play_48 rfl ?_
                refine V_ial dX11_play_50 (by first | assumption | exact ⟨by decide, rfl⟩) (show ix _ i 8 from ⟨rfl, by omega⟩) ?_
                refine V_iload_n dX11_play_51 rfl rfl ?_
                refine V_icmp_ne_f (tgt := 102) dX11_play_52 (by decide) (by rw [h96]; exact (owv_eq (by omega) (by omega)).mpr hb) ?_
                refine V_iconst (v := 1) dX11_play_55 (by decide) (V_istore_3 dX11_play_56 (by decide) rfl (V_iload dX11_play_57 rfl (V_aload_n dX11_play_59 rfl rfl ?_)))
                refine V_getR dX11_play_60 fl_X11_37 (by first | assumption | exact ⟨by decide, rfl⟩) (by first | assumption | rfl) ?_
                refine V_iload dX11_play_63 rfl ?_
                refine V_ial dX11_play_65 (by first | assumption | exact ⟨by decide, rfl⟩) (show ix _ i 16 from ⟨rfl, by omega⟩) ?_
                refine V_iload_n dX11_play_66 rfl rfl ?_
                refine V_icmp_ne_t (tgt := 74) dX11_play_67 (by decide) (by rw [hM3.own (by omega)]; exact fun z => hw ((owv_eq (by omega) (by omega)).mp z)) ?_
                refine V_aload_n dX11_play_74 rfl rfl ?_
                refine V_getR dX11_play_75 fl_X11_31 (by first | assumption | exact ⟨by decide, rfl⟩) (by first | assumption | rfl) ?_
                refine V_iload dX11_play_78 rfl ?_
                refine V_ial dX11_play_80 (by first | assumption | exact ⟨by decide, rfl⟩) (show ix _ i 16 from ⟨rfl, by omega⟩) ?_
                rw [hM3.lin hi]
                exact t81 (K 6 i) (by rw [if_pos ⟨hb, hw⟩])
            · rw [mk_no (f := fun i => decide (bs.getD i 0 = p + 1)) (decide_eq_false hb), if_neg (fun z => hb z.1), Nat.add_zero] at ih2
              refine V_iload dX11_play_33 rfl (V_aload_n dX11_play_35 rfl rfl ?_)
              refine V_getR dX11_play_36 fl_X11_22 (by first | assumption | exact ⟨by decide, rfl⟩) (by first | assumption | rfl) ?_
              refine V_iconst (v := 0) dX11_play_39 (by decide) ?_
              refine V_ial dX11_play_40 (by first | assumption | exact ⟨by decide, rfl⟩) (show ix _ 0 _ from ⟨rfl, by decide⟩) ?_
              refine V_icmp_ge_f (tgt := 108) dX11_play_41 (by decide) (by rw [hM3.n1]; exact nI_ge hi (by omega)) ?_
              refine V_aload_n dX11_play_44 rfl rfl ?_
              refine V_getR dX11_play_45 fl_X11_85 (by first | assumption | exact ⟨by decide, rfl⟩) (by first | assumption | rfl) ?_
              refine V_iload dX11_play_48 rfl ?_
              refine V_ial dX11_play_50 (by first | assumption | exact ⟨by decide, rfl⟩) (show ix _ i 8 from ⟨rfl, by omega⟩) ?_
              refine V_iload_n dX11_play_51 rfl rfl ?_
              refine V_icmp_ne_t (tgt := 102) dX11_play_52 (by decide) (by rw [h96]; exact fun z => hb ((owv_eq (by omega) (by omega)).mp z)) ?_
              refine V_iinc_5 (w := 1) dX11_play_102 (by decide) (by decide) rfl (V_goto (tgt := 33) dX11_play_105 (by decide) ?_)
              rw [nI_1]
              refine ih2 I3 k1 k2 (fun j hj => ?_)
              rw [k3 j hj]
              unfold pnSd
              by_cases hc : j / 8 = p ∧ j % 8 < i ∧ (plB K bs p).testBit (j % 8) = true
              · rw [if_pos hc, if_pos ⟨hc.1, by omega, hc.2.2⟩]
              · rw [if_neg hc, if_neg]
                intro z
                by_cases hji : j % 8 = i
                · have := z.2.2
                  rw [hji, hsd, decide_eq_false hb] at this
                  simp at this
                · exact hc ⟨z.1, by omega, z.2.2⟩
        refine key2 0 (Nat.zero_le _) I2 (fun _ _ _ => rfl) (fun _ _ => rfl) (fun j hj => ?_)
        rw [f4 j hj]
        unfold pnSd
        rw [if_neg (by omega)]
    exact key 0 (Nat.zero_le _) I1 (fun _ _ _ _ => rfl) (fun _ _ => rfl) (fun _ _ => rfl) (fun j hj => hD1.sd hj) (fun q hq => hD1.ow hq)
end
section
variable {E : En} {I : TI} {J : TJ} {co dr : Nat} {cc a1 a2 : Option Nat} {Post : PT} {t : Nat → Nat} {len : Nat} {K : KT} {D D1 D2 : Di} {kp : Nat} {tl : Nat → Int32} {d : Nat}
theorem rop_night (hd : 6 ≤ d) (hDB : DB D.1 D.2.1) (h : MS t len K D D1 D2 kp tl I) {off : Int32} : Cal E d M_X11_night [.ref 70, .int off] NC I J (RR co dr cc a1 a2) (MK t len K (ntD K D off) D1 D2 kp tl (some (.int (a_night K D off))) I J (RR co dr cc a1 a2)) := by
  have h' := h
  obtain ⟨hB, hM, hR, hT, hD⟩ := h
  have hP := hB.1.1
  refine Cal_of kn_X11_night rfl (Nat.le_of_ble_eq_true rfl) ?_
  refine V_aload_n dX11_night_0 rfl rfl (V_iload_n dX11_night_1 rfl rfl ?_)
  refine V_cV1i (M' := M_X11_isOff) (d' := 2) dX11_night_2 (Or.inl ml_X11_229) kb_X11_isOff (by first | assumption | exact ⟨by decide, rfl⟩) (by first | decide | omega) (by simp [Value.category]) ⟨by decide, by decide⟩ ?_
  refine mr_isOff hM.n0 hP ⟨_, rfl, ?_⟩
  cases hv : inR off (2 ^ K 0 0)
  · refine V_if_eq_t (tgt := 16) dX11_night_5 (by decide) (rfl) ?_
    refine V_iconst (v := (-1)) dX11_night_16 (by decide) ?_
    refine V_ireturn dX11_night_17 rfl rfl rfl (by decide) (by decide) ?_
    rw [a_night, ntD, hv]; exact MK.same h'
  · obtain ⟨q1, q2⟩ := inR_cl hv (Nat.pow_lt_pow_right (by decide) (by omega))
    have hmm := lea_met hB (cl off) 0 D.1 D.2.1
    refine V_if_eq_f (tgt := 16) dX11_night_5 (by decide) (by decide) ?_
    refine V_aload_n dX11_night_8 rfl rfl (V_iload_n dX11_night_9 rfl rfl ?_)
    refine V_cV1i (M' := M_X11_play) (d' := 5) dX11_night_10 (Or.inl ml_X11_303) kb_X11_play (by first | assumption | exact ⟨by decide, rfl⟩) (by first | decide | omega) (by simp [Value.category]) ⟨by decide, by decide⟩ ?_
    rw [show [Value.ref 70, Value.int off] = [Value.ref 70, Value.int (nI (cl off))] by rw [← q2]]
    refine mr_play hB hM hR hD.1 hDB (pw31 hP q1) (fun hm I1 J1 g1 g2 => ⟨_, rfl, ?_⟩) (fun hm hlt I1 J1 g1 g2 _ _ g3 => ⟨_, rfl, ?_⟩)
    · refine V_goto (tgt := 17) dX11_night_13 (by decide) ?_
      refine V_ireturn dX11_night_17 rfl rfl rfl (by decide) (by decide) ?_
      have hlt : ¬ (lea K (cl off) 0 D.1 D.2.1).1 < 1000000 := by rw [hm] at hmm; exact of_decide_eq_false hmm.symm
      rw [a_night, ntD, hv, decide_eq_false hlt, if_pos rfl, if_neg hlt]
      exact ⟨rfl, rfl, rfl, g1.MS h', g1.lo, g2.mk⟩
    · refine V_goto (tgt := 17) dX11_night_13 (by decide) ?_
      refine V_ireturn dX11_night_17 rfl rfl rfl (by decide) (by decide) ?_
      rw [a_night, ntD, hv, decide_eq_true hlt, if_pos rfl, if_pos hlt]
      exact ⟨rfl, rfl, rfl, g1.MS h' g3, g1.lo, g2.mk⟩
theorem rop_run (hd : 6 ≤ d) (hDB : DB D.1 D.2.1) (hD9 : D.1 ≤ 90000) (h : MS t len K D D1 D2 kp tl I) {n z m : Int32} : Cal E d M_X11_run [.ref 70, .int n, .int z, .int m] NC I J (RR co dr cc a1 a2) (MK t len K D D1 D2 kp tl (some (.int (a_run K n z m))) I J (RR co dr cc a1 a2)) := by
  have h' := h
  obtain ⟨hB, hM, hR, hT, hD⟩ := h
  have hP := hB.1.1
  refine Cal_of kn_X11_run rfl (Nat.le_of_ble_eq_true rfl) ?_
  refine V_iload_n dX11_run_0 rfl rfl (V_i2l dX11_run_1 (V_lconst (v := 1) dX11_run_2 rfl (V_ldc2_w dX11_run_3 ct_X11_308 ?_)))
  refine V_cS3i (M' := M_X11_in) (d' := 1) dX11_run_6 (Or.inl ml_X11_124) kb_X11_in (by first | decide | omega) (by simp [Value.category]) ⟨by decide, by decide⟩ ?_
  refine mr_in ⟨_, rfl, ?_⟩
  have en : decide ((1 : Int64).toInt ≤ n.toInt64.toInt ∧ n.toInt64.toInt ≤ (20 : Int64).toInt) = nR n := in_C (u := 1) (v := 20) (by decide) (by decide)
  rw [en]
  cases hv : nR n
  · refine V_if_eq_t (tgt := 32) dX11_run_9 (by decide) (rfl) ?_
    refine V_iconst (v := (-1)) dX11_run_32 (by decide) ?_
    refine V_ireturn dX11_run_33 rfl rfl rfl (by decide) (by decide) ?_
    rw [a_run, hv]; exact MK.same h'
  · obtain ⟨n1, n2⟩ := nR_cl hv
    refine V_if_eq_f (tgt := 32) dX11_run_9 (by decide) (by decide) ?_
    refine V_iload_n dX11_run_12 rfl rfl (V_i2l dX11_run_13 (V_lconst (v := 0) dX11_run_14 rfl (V_ldc2_w dX11_run_15 ct_X11_310 ?_)))
    refine V_cS3i (M' := M_X11_in) (d' := 1) dX11_run_18 (Or.inl ml_X11_124) kb_X11_in (by first | decide | omega) (by simp [Value.category]) ⟨by decide, by decide⟩ ?_
    refine mr_in ⟨_, rfl, ?_⟩
    have ez : decide ((0 : Int64).toInt ≤ z.toInt64.toInt ∧ z.toInt64.toInt ≤ (999 : Int64).toInt) = inR z 1000 := by
      rw [in_C (u := 0) (v := 999) (by decide) (by decide)]
      exact decide_eq_decide.mpr (by omega)
    rw [ez]
    cases hz : inR z 1000
    · refine V_if_eq_t (tgt := 32) dX11_run_21 (by decide) (rfl) ?_
      refine V_iconst (v := (-1)) dX11_run_32 (by decide) ?_
      refine V_ireturn dX11_run_33 rfl rfl rfl (by decide) (by decide) ?_
      rw [a_run, hv, hz]; exact MK.same h'
    · obtain ⟨z1, z2⟩ := inR_cl hz (by omega)
      refine V_if_eq_f (tgt := 32) dX11_run_21 (by decide) (by decide) ?_
      refine V_aload_n dX11_run_24 rfl rfl (V_iload_n dX11_run_25 rfl rfl ?_)
      refine V_cV1i (M' := M_X11_isOff) (d' := 2) dX11_run_26 (Or.inl ml_X11_229) kb_X11_isOff (by first | assumption | exact ⟨by decide, rfl⟩) (by first | decide | omega) (by simp [Value.category]) ⟨by decide, by decide⟩ ?_
      refine mr_isOff hM.n0 hP ⟨_, rfl, ?_⟩
      cases hm : inR m (2 ^ K 0 0)
      · refine V_if_ne_f (tgt := 34) dX11_run_29 (by decide) (rfl) ?_
        refine V_iconst (v := (-1)) dX11_run_32 (by decide) ?_
        refine V_ireturn dX11_run_33 rfl rfl rfl (by decide) (by decide) ?_
        rw [a_run, hv, hz, hm]; exact MK.same h'
      · obtain ⟨m1, m2⟩ := inR_cl hm (Nat.pow_lt_pow_right (by decide) (by omega))
        have hm31 := pw31 hP m1
        have hans : a_run K n z m = nI (rnF K (cl z) (cl m) (cl n) (cl n) 0) := by rw [a_run, hv, hz, hm]; rfl
        rw [hans]
        clear hans
        generalize cl n = nn at *
        generalize cl z = zz at *
        generalize cl m = mm at *
        subst n2 z2 m2
        -- the end: all is put back
        have back : ∀ v I2 J2, FrP I I2 → FJ J J2 → (∀ j, j < 80 → I2 104 j = nI (D.2.1 j)) → (∀ p, p < 10 → I2 105 p = D.2.2 p) → rnF K zz mm nn nn 0 = v → V E d M_X11_run (MK t len K D D1 D2 kp tl (some (.int (nI (rnF K zz mm nn nn 0)))) I J (RR co dr cc a1 a2)) 139 [some (.ref 70), some (.int (nI nn)), some (.int (nI zz)), some (.int (nI mm)), some (.int (nI D.1)), some (.int (nI v)), none] [] NC 0 0 I2 J2 (RR co dr cc a1 a2) := by
          intro v I2 J2 f1 j1 h104 h105 hvv
          rw [hvv]
          refine V_iconst (v := 0) dX11_run_139 (by decide) (V_istore_6 dX11_run_140 (by decide) rfl ?_)
          have k1 : ∀ k, k ≤ 80 → ∀ I3, (∀ x y, x ≠ 88 → I3 x y = I2 x y) → (∀ y, 80 ≤ y → I3 88 y = I2 88 y) → (∀ j, j < k → I3 88 j = nI (D.2.1 j)) → V E d M_X11_run (MK t len K D D1 D2 kp tl (some (.int (nI v))) I J (RR co dr cc a1 a2)) 142 [some (.ref 70), some (.int (nI nn)), some (.int (nI zz)), some (.int (nI mm)), some (.int (nI D.1)), some (.int (nI v)), some (.int (nI k))] [] NC 0 0 I3 J2 (RR co dr cc a1 a2) := by
            refine loop_up 80 ?_ ?_
            · intro I3 w1 w2 w3
              refine V_iload dX11_run_142 rfl (V_bipush (v := 80) dX11_run_144 (by decide) ?_)
              refine V_icmp_ge_t (tgt := 169) dX11_run_146 (by decide) (nI_le (a := 80) (b := 80) (by decide) (by decide)) ?_
              refine V_iconst (v := 0) dX11_run_169 (by decide) (V_istore_6 dX11_run_170 (by decide) rfl ?_)
              have k2 : ∀ k, k ≤ 10 → ∀ I4, (∀ x y, x ≠ 90 → I4 x y = I3 x y) → (∀ y, 10 ≤ y → I4 90 y = I3 90 y) → (∀ p, p < k → I4 90 p = D.2.2 p) → V E d M_X11_run (MK t len K D D1 D2 kp tl (some (.int (nI v))) I J (RR co dr cc a1 a2)) 172 [some (.ref 70), some (.int (nI nn)), some (.int (nI zz)), some (.int (nI mm)), some (.int (nI D.1)), some (.int (nI v)), some (.int (nI k))] [] NC 0 0 I4 J2 (RR co dr cc a1 a2) := by
                refine loop_up 10 ?_ ?_
                · intro I4 u1 u2 u3
                  refine V_iload dX11_run_172 rfl (V_bipush (v := 10) dX11_run_174 (by decide) ?_)
                  refine V_icmp_ge_t (tgt := 199) dX11_run_176 (by decide) (nI_le (a := 10) (b := 10) (by decide) (by decide)) ?_
                  refine V_aload_n dX11_run_199 rfl rfl ?_
                  refine V_getR dX11_run_200 fl_X11_64 (by first | assumption | exact ⟨by decide, rfl⟩) (by first | assumption | rfl) ?_
                  refine V_iconst (v := 0) dX11_run_203 (by decide) (V_iload dX11_run_204 rfl ?_)
                  refine V_ias dX11_run_206 (by first | assumption | exact ⟨by decide, rfl⟩) (show ix _ 0 _ from ⟨rfl, by decide⟩) ?_
                  refine V_iload dX11_run_207 rfl ?_
                  refine V_ireturn dX11_run_209 rfl rfl rfl (by decide) (by decide) ?_
                  have fr : FrP I (up2 I4 89 0 (nI D.1)) := fun x y a b c e1 e2 e f i j => by
                    rw [u2n (by omega)]
                    have q3 : I4 x y = I3 x y := by
                      by_cases hx : x = 90
                      · subst hx; exact u2 y (by omega)
                      · exact u1 x y hx
                    have q4 : I3 x y = I2 x y := by
                      by_cases hx : x = 88
                      · subst hx; exact w2 y (by omega)
                      · exact w1 x y hx
                    rw [q3, q4]
                    exact f1 x y a b c e1 e2 e f i j
                  exact ⟨rfl, rfl, rfl, fr.MS h' (MDX.mk0 u2e (fun j hj => by rw [u2n (by omega), u1 _ _ (by omega)]; exact w3 j hj) (fun q hq => by rw [u2n (by omega)]; exact u3 q hq)), fr.lo, j1.mk⟩
                · intro k hk ih I4 u1 u2 u3
                  refine V_iload dX11_run_172 rfl (V_bipush (v := 10) dX11_run_174 (by decide) ?_)
                  refine V_icmp_ge_f (tgt := 199) dX11_run_176 (by decide) (nI_ge (b := 10) hk (by decide)) ?_
                  refine V_aload_n dX11_run_179 rfl rfl ?_
                  refine V_getR dX11_run_180 fl_X11_67 (by first | assumption | exact ⟨by decide, rfl⟩) (by first | assumption | rfl) ?_
                  refine V_iload dX11_run_183 rfl (V_aload_n dX11_run_185 rfl rfl ?_)
                  refine V_getR dX11_run_186 fl_X11_112 (by first | assumption | exact ⟨by decide, rfl⟩) (by first | assumption | rfl) ?_
                  refine V_iload dX11_run_189 rfl ?_
                  refine V_ial dX11_run_191 (by first | assumption | exact ⟨by decide, rfl⟩) (show ix _ k 10 from ⟨rfl, by omega⟩) ?_
                  refine V_ias dX11_run_192 (by first | assumption | exact ⟨by decide, rfl⟩) (show ix _ k 30 from ⟨rfl, by omega⟩) ?_
                  refine V_iinc_6 (w := 1) dX11_run_193 (by decide) (by decide) rfl (V_goto (tgt := 172) dX11_run_196 (by decide) ?_)
                  rw [nI_1]
                  refine ih _ (fun x y a => by rw [u2n (by omega)]; exact u1 x y a) (fun y hy => by rw [u2n (by omega)]; exact u2 y hy) (fun p hp => ?_)
                  by_cases hpk : p = k
                  · rw [hpk, u2e, u1 _ _ (by omega), w1 _ _ (by omega)]; exact h105 k hk
                  · rw [u2n (by omega)]; exact u3 p (by omega)
              exact k2 0 (Nat.zero_le _) I3 (fun _ _ _ => rfl) (fun _ _ => rfl) (fun p hp => absurd hp (by omega))
            · intro k hk ih I3 w1 w2 w3
              refine V_iload dX11_run_142 rfl (V_bipush (v := 80) dX11_run_144 (by decide) ?_)
              refine V_icmp_ge_f (tgt := 169) dX11_run_146 (by decide) (nI_ge (b := 80) hk (by decide)) ?_
              refine V_aload_n dX11_run_149 rfl rfl ?_
              refine V_getR dX11_run_150 fl_X11_61 (by first | assumption | exact ⟨by decide, rfl⟩) (by first | assumption | rfl) ?_
              refine V_iload dX11_run_153 rfl (V_aload_n dX11_run_155 rfl rfl ?_)
              refine V_getR dX11_run_156 fl_X11_109 (by first | assumption | exact ⟨by decide, rfl⟩) (by first | assumption | rfl) ?_
              refine V_iload dX11_run_159 rfl ?_
              refine V_ial dX11_run_161 (by first | assumption | exact ⟨by decide, rfl⟩) (show ix _ k 80 from ⟨rfl, by omega⟩) ?_
              refine V_ias dX11_run_162 (by first | assumption | exact ⟨by decide, rfl⟩) (show ix _ k 240 from ⟨rfl, by omega⟩) ?_
              refine V_iinc_6 (w := 1) dX11_run_163 (by decide) (by decide) rfl (V_goto (tgt := 142) dX11_run_166 (by decide) ?_)
              rw [nI_1]
              refine ih _ (fun x y a => by rw [u2n (by omega)]; exact w1 x y a) (fun y hy => by rw [u2n (by omega)]; exact w2 y hy) (fun p hp => ?_)
              by_cases hpk : p = k
              · rw [hpk, u2e, w1 _ _ (by omega)]; exact h104 k hk
              · rw [u2n (by omega)]; exact w3 p (by omega)
          exact k1 0 (Nat.zero_le _) I2 (fun _ _ _ => rfl) (fun _ _ => rfl) (fun p hp => absurd hp (by omega))
        -- the nights
        have nights : ∀ r i D' I2 J2, i + r = nn → rnF K zz mm nn r i = rnF K zz mm nn nn 0 → D'.1 ≤ 90000 + i → DB D'.1 D'.2.1 → MDX I2 0 D' → FrP I I2 → FJ J J2 → (∀ j, j < 80 → I2 104 j = nI (D.2.1 j)) → (∀ p, p < 10 → I2 105 p = D.2.2 p) → V E d M_X11_run (MK t len K D D1 D2 kp tl (some (.int (nI (rnF K zz mm nn nn 0)))) I J (RR co dr cc a1 a2)) 105 [some (.ref 70), some (.int (nI nn)), some (.int (nI zz)), some (.int (nI mm)), some (.int (nI D.1)), some (.int (nI i)), none] [] NC 0 0 I2 J2 (RR co dr cc a1 a2) := by
          intro r
          induction r with
          | zero =>
            intro i D' I2 J2 hi hr _ _ _ f1 j1 h104 h105
            refine V_iload dX11_run_105 rfl (V_iload_n dX11_run_107 rfl rfl ?_)
            refine V_icmp_ge_t (tgt := 139) dX11_run_108 (by decide) (nI_le (by omega) (by omega)) ?_
            exact back i I2 J2 f1 j1 h104 h105 (by rw [← hr]; show nn = i; omega)
          | succ r ih =>
            intro i D' I2 J2 hi hr hd9 hDB' hD' f1 j1 h104 h105
            have hM2 := f1.MB hB hM
            have hR2 := f1.MR hR
            have hof : offR zz mm i < 2 ^ 31 := Nat.lt_of_le_of_lt Nat.and_le_right hm31
            refine V_iload dX11_run_105 rfl (V_iload_n dX11_run_107 rfl rfl ?_)
            refine V_icmp_ge_f (tgt := 139) dX11_run_108 (by decide) (nI_ge (by omega) (by omega)) ?_
            refine V_aload_n dX11_run_111 rfl rfl (V_iload_n dX11_run_112 rfl rfl (V_iload dX11_run_113 rfl (V_iadd dX11_run_115 (V_bipush (v := 37) dX11_run_116 (by decide) (V_imul dX11_run_118 ?_)))))
            refine V_sipush (v := 1024) dX11_run_119 (by decide) (V_irem dX11_run_122 (by decide) (V_iload_n dX11_run_123 rfl rfl (V_iand dX11_run_124 ?_)))
            refine V_cV1i (M' := M_X11_play) (d' := 5) dX11_run_125 (Or.inl ml_X11_303) kb_X11_play (by first | assumption | exact ⟨by decide, rfl⟩) (by first | decide | omega) (by simp [Value.category]) ⟨by decide, by decide⟩ ?_
            have earg : ((nI zz + nI i) * 37 - (nI zz + nI i) * 37 / 1024 * 1024) &&& nI mm = nI (offR zz mm i) := by
              rw [nI_add, show (37 : Int32) = nI 37 from rfl, show (1024 : Int32) = nI 1024 from rfl, pk_mul, pk_rem (by omega) (by omega) (by omega), and_nI]
              rfl
            rw [earg]
            have er : rnF K zz mm nn (r + 1) i = if metB K (offR zz mm i) 0 = true then rnF K zz mm nn r (i + 1) else i := rfl
            rw [er] at hr
            refine mr_play hB hM2 hR2 hD' hDB' hof (fun hm I3 J3 g1 g2 => ⟨_, rfl, ?_⟩) (fun hm hlt I3 J3 g1 g2 g4 g5 g3 => ⟨_, rfl, ?_⟩)
            · rw [hm] at hr
              refine V_bipush (v := (-4)) dX11_run_128 (by decide) ?_
              refine V_icmp_eq_t (tgt := 139) dX11_run_130 (by decide) (rfl) ?_
              exact back i I3 J3 (f1.trans g1.P) (j1.trans g2) (fun j hj => by rw [g1 _ _ (by omega) (by omega) (by omega) (by omega)]; exact h104 j hj) (fun p hp => by rw [g1 _ _ (by omega) (by omega) (by omega) (by omega)]; exact h105 p hp) hr.symm
            · rw [hm, if_pos rfl] at hr
              refine V_bipush (v := (-4)) dX11_run_128 (by decide) ?_
              refine V_icmp_eq_f (tgt := 139) dX11_run_130 (by decide) (nI_ne4 (by omega)) ?_
              refine V_iinc_5 (w := 1) dX11_run_133 (by decide) (by decide) rfl (V_goto (tgt := 105) dX11_run_136 (by decide) ?_)
              rw [nI_1]
              exact ih (i + 1) (ntP K D' (offR zz mm i)) I3 J3 (by omega) hr (by show D'.1 + 1 ≤ _; omega) (DB_ntP hDB' (by omega)) g3 (f1.trans g1) (j1.trans g2) (fun j hj => by rw [g4]; exact h104 j hj) (fun p hp => by rw [g5]; exact h105 p hp)
        refine V_if_ne_t (tgt := 34) dX11_run_29 (by decide) (by decide) ?_
        refine V_iconst (v := 0) dX11_run_34 (by decide) (V_istore_4 dX11_run_35 (by decide) rfl ?_)
        have k1 : ∀ k, k ≤ 80 → ∀ I2, (∀ x y, x ≠ 104 → I2 x y = I x y) → (∀ j, j < k → I2 104 j = nI (D.2.1 j)) → V E d M_X11_run (MK t len K D D1 D2 kp tl (some (.int (nI (rnF K zz mm nn nn 0)))) I J (RR co dr cc a1 a2)) 37 [some (.ref 70), some (.int (nI nn)), some (.int (nI zz)), some (.int (nI mm)), some (.int (nI k)), none, none] [] NC 0 0 I2 J (RR co dr cc a1 a2) := by
          refine loop_up 80 ?_ ?_
          · intro I2 w1 w2
            refine V_iload dX11_run_37 rfl (V_bipush (v := 80) dX11_run_39 (by decide) ?_)
            refine V_icmp_ge_t (tgt := 64) dX11_run_41 (by decide) (nI_le (a := 80) (b := 80) (by decide) (by decide)) ?_
            refine V_iconst (v := 0) dX11_run_64 (by decide) (V_istore_4 dX11_run_65 (by decide) rfl ?_)
            have k2 : ∀ k, k ≤ 10 → ∀ I3, (∀ x y, x ≠ 105 → I3 x y = I2 x y) → (∀ p, p < k → I3 105 p = D.2.2 p) → V E d M_X11_run (MK t len K D D1 D2 kp tl (some (.int (nI (rnF K zz mm nn nn 0)))) I J (RR co dr cc a1 a2)) 67 [some (.ref 70), some (.int (nI nn)), some (.int (nI zz)), some (.int (nI mm)), some (.int (nI k)), none, none] [] NC 0 0 I3 J (RR co dr cc a1 a2) := by
              refine loop_up 10 ?_ ?_
              · intro I3 u1 u2
                have fr : FrP I I3 := fun x y a b c e1 e2 e f i j => by rw [u1 x y e2, w1 x y e1]
                have hD3 : MDX I3 0 D := hD.1.of (fun x y a b => by rw [u1 x y (by omega), w1 x y (by omega)])
                refine V_iload dX11_run_67 rfl (V_bipush (v := 10) dX11_run_69 (by decide) ?_)
                refine V_icmp_ge_t (tgt := 94) dX11_run_71 (by decide) (nI_le (a := 10) (b := 10) (by decide) (by decide)) ?_
                refine V_aload_n dX11_run_94 rfl rfl ?_
                refine V_getR dX11_run_95 fl_X11_64 (by first | assumption | exact ⟨by decide, rfl⟩) (by first | assumption | rfl) ?_
                refine V_iconst (v := 0) dX11_run_98 (by decide) ?_
                refine V_ial dX11_run_99 (by first | assumption | exact ⟨by decide, rfl⟩) (show ix _ 0 _ from ⟨rfl, by decide⟩) ?_
                refine V_istore_4 dX11_run_100 (by decide) rfl (V_iconst (v := 0) dX11_run_102 (by decide) (V_istore_5 dX11_run_103 (by decide) rfl ?_))
                rw [hD3.td]
                exact nights nn 0 D I3 J (by omega) rfl (by omega) hDB hD3 fr FJ.refl (fun j hj => by rw [u1 _ _ (by omega)]; exact w2 j hj) u2
              · intro k hk ih I3 u1 u2
                refine V_iload dX11_run_67 rfl (V_bipush (v := 10) dX11_run_69 (by decide) ?_)
                refine V_icmp_ge_f (tgt := 94) dX11_run_71 (by decide) (nI_ge (b := 10) hk (by decide)) ?_
                refine V_aload_n dX11_run_74 rfl rfl ?_
                refine V_getR dX11_run_75 fl_X11_112 (by first | assumption | exact ⟨by decide, rfl⟩) (by first | assumption | rfl) ?_
                refine V_iload dX11_run_78 rfl (V_aload_n dX11_run_80 rfl rfl ?_)
                refine V_getR dX11_run_81 fl_X11_67 (by first | assumption | exact ⟨by decide, rfl⟩) (by first | assumption | rfl) ?_
                refine V_iload dX11_run_84 rfl ?_
                refine V_ial dX11_run_86 (by first | assumption | exact ⟨by decide, rfl⟩) (show ix _ k 30 from ⟨rfl, by omega⟩) ?_
                refine V_ias dX11_run_87 (by first | assumption | exact ⟨by decide, rfl⟩) (show ix _ k 10 from ⟨rfl, by omega⟩) ?_
                refine V_iinc_4 (w := 1) dX11_run_88 (by decide) (by decide) rfl (V_goto (tgt := 67) dX11_run_91 (by decide) ?_)
                rw [nI_1]
                refine ih _ (fun x y a => by rw [u2n (by omega)]; exact u1 x y a) (fun p hp => ?_)
                by_cases hpk : p = k
                · rw [hpk, u2e, u1 _ _ (by omega), w1 _ _ (by omega)]; exact hD.1.ow hk
                · rw [u2n (by omega)]; exact u2 p (by omega)
            exact k2 0 (Nat.zero_le _) I2 (fun _ _ _ => rfl) (fun p hp => absurd hp (by omega))
          · intro k hk ih I2 w1 w2
            refine V_iload dX11_run_37 rfl (V_bipush (v := 80) dX11_run_39 (by decide) ?_)
            refine V_icmp_ge_f (tgt := 64) dX11_run_41 (by decide) (nI_ge (b := 80) hk (by decide)) ?_
            refine V_aload_n dX11_run_44 rfl rfl ?_
            refine V_getR dX11_run_45 fl_X11_109 (by first | assumption | exact ⟨by decide, rfl⟩) (by first | assumption | rfl) ?_
            refine V_iload dX11_run_48 rfl (V_aload_n dX11_run_50 rfl rfl ?_)
            refine V_getR dX11_run_51 fl_X11_61 (by first | assumption | exact ⟨by decide, rfl⟩) (by first | assumption | rfl) ?_
            refine V_iload dX11_run_54 rfl ?_
            refine V_ial dX11_run_56 (by first | assumption | exact ⟨by decide, rfl⟩) (show ix _ k 240 from ⟨rfl, by omega⟩) ?_
            refine V_ias dX11_run_57 (by first | assumption | exact ⟨by decide, rfl⟩) (show ix _ k 80 from ⟨rfl, by omega⟩) ?_
            refine V_iinc_4 (w := 1) dX11_run_58 (by decide) (by decide) rfl (V_goto (tgt := 37) dX11_run_61 (by decide) ?_)
            rw [nI_1]
            refine ih _ (fun x y a => by rw [u2n (by omega)]; exact w1 x y a) (fun p hp => ?_)
            by_cases hpk : p = k
            · rw [hpk, u2e, w1 _ _ (by omega)]; exact hD.1.sd hk
            · rw [u2n (by omega)]; exact w2 p (by omega)
        exact k1 0 (Nat.zero_le _) I (fun _ _ _ => rfl) (fun p hp => absurd hp (by omega))
end
