/-! Calls of the class: rehearse, lay -/
def D0 : Di := (0, (fun _ => 0), fun _ => 0)
def lyOk (t : Nat → Nat) (len : Nat) : Bool := decide ((rdF t len (len + 1) K0 0).1 = none ∧ (rdF t len (len + 1) K0 0).2 0 0 ≠ 0 ∧ (rdF t len (len + 1) K0 0).2 0 1 ≠ 0)
def lyK (t : Nat → Nat) (len : Nat) (K : KT) : KT := if lyOk t len then (rdF t len (len + 1) K0 0).2 else K
def lyD (t : Nat → Nat) (len : Nat) (D : Di) : Di := if lyOk t len then D0 else D
def lyN (t : Nat → Nat) (len : Nat) (kp : Nat) : Nat := if lyOk t len then 0 else kp
def lyT (t : Nat → Nat) (len : Nat) (tl : Nat → Int32) : Nat → Int32 := if lyOk t len then (fun _ => 0) else tl
def a_lay (t : Nat → Nat) (len : Nat) : Int32 := if lyOk t len then nI ((rdF t len (len + 1) K0 0).2 0 0) else -2
theorem rdF_lt0 {t : Nat → Nat} {len : Nat} (f : Nat) : ∀ (K : KT) (k j : Nat), k ≤ len → len + 1 ≤ k + f → (rdF t len f K k).1 = some j → j < len := by
  induction f with
  | zero => intro K k j h1 hf h; omega
  | succ f ih =>
    intro K k j h1 hf h
    unfold rdF at h
    by_cases hkl : len ≤ k
    · rw [if_pos hkl] at h; cases h
    · rw [if_neg hkl] at h
      cases he : eoi t len 4 (k + 1) with
      | none => rw [he] at h; cases h; omega
      | some r =>
        obtain ⟨p, l⟩ := r
        obtain ⟨w1, w2, w3, w4, w5⟩ := eoi_ok t len 4 (k + 1) p l he
        rw [he] at h
        dsimp only at h
        cases ht : takeK K (t k) (fun q => l.getD q 0) l.length with
        | none => rw [ht] at h; cases h; omega
        | some K' => rw [ht] at h; exact ih K' p j w2 (by omega) h
theorem rdF_lt {t : Nat → Nat} {len j : Nat} (h : (rdF t len (len + 1) K0 0).1 = some j) : j < len := rdF_lt0 (len + 1) K0 0 j (Nat.zero_le _) (by omega) h
section
variable {E : En} {I : TI} {J : TJ} {R : TR} {t : Nat → Nat} {len : Nat} {K : KT} {D D1 D2 : Di} {kp : Nat} {tl : Nat → Int32} {co dr : Nat} {cc a1 a2 : Option Nat} {Post : PT}
theorem sp_startAnew {d : Nat} (hd : 3 ≤ d) (hP : K 0 0 ≤ 10) (Kk : ∀ I', (∀ x y, (x ≠ 0 ∨ y ≠ 8) → (x < 32 ∨ 34 < x) → x ≠ 41 → x ≠ 49 → x ≠ 53 → x ≠ 59 → I' x y = I x y) → CDI I' D0 D1 D2 0 (fun _ => 0) → CCA I' J K → Post none NC I' J (RR co dr cc a1 a2)) : Cal E d M_X10_startAnew [.ref 0] NC I J (RR co dr cc a1 a2) Post := by
  refine Cal_of kn_X10_startAnew rfl (Nat.le_of_ble_eq_true rfl) ?_
  refine V_aload_n dX10_startAnew_0 rfl rfl ?_
  refine V_getR dX10_startAnew_1 fl_X10_33 (by first | assumption | exact ⟨by decide, rfl⟩) (by first | assumption | rfl) ?_
  refine V_cV0v (M' := M_X4_clear) (d' := 2) dX10_startAnew_4 (Or.inl ml_X10_116) kb_X4_clear (by first | assumption | exact ⟨by decide, rfl⟩) (by first | decide | omega) (by simp [Value.category]) ⟨by decide, by decide⟩ ?_
  refine sp_diClear (Or.inl rfl) (fun I1 g1 g2 => ⟨rfl, ?_⟩)
  refine V_aload_n dX10_startAnew_7 rfl rfl (V_iconst (v := 0) dX10_startAnew_8 (by decide) ?_)
  refine V_putI dX10_startAnew_9 fl_X10_117 (by first | assumption | exact ⟨by decide, rfl⟩) ?_
  refine V_aload_n dX10_startAnew_12 rfl rfl ?_
  refine V_getR dX10_startAnew_13 fl_X10_43 (by first | assumption | exact ⟨by decide, rfl⟩) (by first | assumption | rfl) ?_
  refine V_iconst (v := 0) dX10_startAnew_16 (by decide) ?_
  refine V_cS2v (M' := M_J7_fill_53178) (d' := 1) dX10_startAnew_17 (Or.inl ml_X10_120) kb_J7_fill_53178 (by first | decide | omega) (by simp [Value.category]) ⟨by decide, by decide⟩ ?_
  refine sp_fill (k := 41) (len := 10) ⟨by decide, rfl⟩ (fun I2 m1 => ⟨rfl, ?_⟩)
  refine V_aload_n dX10_startAnew_20 rfl rfl ?_
  refine V_getR dX10_startAnew_21 fl_X10_57 (by first | assumption | exact ⟨by decide, rfl⟩) (by first | assumption | rfl) ?_
  refine V_cV0v (M' := M_X0_forget) (d' := 2) dX10_startAnew_24 (Or.inl ml_X10_126) kb_X0_forget (by first | assumption | exact ⟨by decide, rfl⟩) (by first | decide | omega) (by simp [Value.category]) ⟨by decide, by decide⟩ ?_
  refine sp_abForget (K := K) (by omega) hP (fun I3 n1 n2 => ⟨rfl, ?_⟩)
  refine V_aload_n dX10_startAnew_27 rfl rfl ?_
  refine V_getR dX10_startAnew_28 fl_X10_64 (by first | assumption | exact ⟨by decide, rfl⟩) (by first | assumption | rfl) ?_
  refine V_cV0v (M' := M_X9_forget) (d' := 1) dX10_startAnew_31 (Or.inl ml_X10_129) kb_X9_forget (by first | assumption | exact ⟨by decide, rfl⟩) (by first | decide | omega) (by simp [Value.category]) ⟨by decide, by decide⟩ ?_
  refine sp_unForget (K := K) (fun I4 p1 p2 p3 => ⟨rfl, ?_⟩)
  refine V_aload_n dX10_startAnew_34 rfl rfl ?_
  refine V_getR dX10_startAnew_35 fl_X10_71 (by first | assumption | exact ⟨by decide, rfl⟩) (by first | assumption | rfl) ?_
  refine V_cV0v (M' := M_X7_forget) (d' := 1) dX10_startAnew_38 (Or.inl ml_X10_130) kb_X7_forget (by first | assumption | exact ⟨by decide, rfl⟩) (by first | decide | omega) (by simp [Value.category]) ⟨by decide, by decide⟩ ?_
  refine sp_siForget (K := K) (fun I5 q1 q2 => ⟨rfl, ?_⟩)
  refine V_return dX10_startAnew_41 rfl rfl (by decide) (by decide) ?_
  have f2 : ∀ x y, x ≠ 41 → I2 x y = up2 I1 0 8 0 x y := fun x y hx => by rw [m1, if_neg (fun z => hx z.1)]
  have f5 : ∀ x y, x ≠ 41 → x ≠ 49 → x ≠ 53 → x ≠ 59 → I5 x y = up2 I1 0 8 0 x y := fun x y h1 h2 h3 h4 => by rw [q1 x y (by omega), p1 x y (by omega), n1 x y h2, f2 x y h1]
  refine Kk I5 (fun x y h1 h2 h3 h4 h5 h6 => ?_) ⟨?_, fun k => absurd k (by decide), fun k => absurd k (by decide), ?_, fun p hp => ?_⟩ ⟨?_, ?_, ?_, q2⟩
  · rw [f5 x y h3 h4 h5 h6, u2n (by omega)]; exact g1 x y h2
  · exact g2.of (fun x y a b => by rw [f5 x y (by omega) (by omega) (by omega) (by omega), u2n (by omega)])
  · rw [f5 _ _ (by omega) (by omega) (by omega) (by omega), u2e]; rfl
  · rw [q1 _ _ (by omega), p1 _ _ (by omega), n1 _ _ (by omega), m1, if_pos ⟨rfl, hp⟩]
  · exact n2.of (fun b => by rw [q1 _ _ (by omega), p1 _ _ (by omega)])
  · exact p2.of (q1 _ _ (by omega)) (fun _ => rfl)
  · exact p3.of (q1 _ _ (by omega)) (q1 _ _ (by omega))
theorem op_lay {d : Nat} (hd : 5 ≤ d) (h : CS t len K D D1 D2 kp tl I J R) : Cal E d M_X10_lay [.ref 0] NC I J R (OK t len (lyK t len K) (lyD t len D) D1 D2 (lyN t len kp) (lyT t len tl) (some (.int (a_lay t len))) I J) := by
  obtain ⟨co, dr, cc, a1, a2, hw, rfl, hX, hS, hT, hD, hC⟩ := h
  have hco := hw.co
  have hdr := hw.dr
  have hne : co + 13 < dr ∨ dr + 13 < co := by rcases hw with h | h <;> omega
  have hrd : RR co dr cc a1 a2 0 4 = some dr := rfl
  have hrc : RR co dr cc a1 a2 0 3 = some co := rfl
  obtain ⟨_, _, _, _, _, _, _, _, _, _, _, _, _, _, _, _, _, _, _, _, _, _, _⟩ := f_co (co := co) (dr := dr) (cc := cc) (a1 := a1) (a2 := a2) (hdr)
  refine Cal_of kn_X10_lay rfl (Nat.le_of_ble_eq_true rfl) ?_
  refine V_aload_n dX10_lay_0 rfl rfl ?_
  refine V_getR dX10_lay_1 fl_X10_16 (by first | assumption | exact ⟨by decide, rfl⟩) (by first | assumption | rfl) ?_
  refine V_aload_n dX10_lay_4 rfl rfl ?_
  refine V_getR dX10_lay_5 fl_X10_9 (by first | assumption | exact ⟨by decide, rfl⟩) (by first | assumption | rfl) ?_
  refine V_aload_n dX10_lay_8 rfl rfl ?_
  refine V_getI dX10_lay_9 fl_X10_102 (by first | assumption | exact ⟨by decide, rfl⟩) ?_
  refine V_aload_n dX10_lay_12 rfl rfl ?_
  refine V_getR dX10_lay_13 fl_X10_27 (by first | assumption | exact ⟨by decide, rfl⟩) (by first | assumption | rfl) ?_
  refine V_cV3i (M' := M_X6_firstFault) (d' := 4) dX10_lay_16 (Or.inl ml_X10_106) kb_X6_firstFault (by first | assumption | exact ⟨by decide, rfl⟩) (by first | decide | omega) (by simp [Value.category]) ⟨by decide, by decide⟩ ?_
  rw [hT.2]
  refine sp_firstFault hdr hT.1 (fun I1 g1 g2 g3 => ⟨_, rfl, ?_⟩)
  have hP := g3.1.1
  have hQ := g3.1.2.1
  have no : lyOk t len = false → ∀ st, V E d M_X10_lay (OK t len (lyK t len K) (lyD t len D) D1 D2 (lyN t len kp) (lyT t len tl) (some (.int (a_lay t len))) I J) 44 st [] NC 0 0 I1 J (RR co dr cc a1 a2) := by
    intro hl st
    refine V_bipush (v := (-2)) dX10_lay_44 (by decide) ?_
    refine V_ireturn dX10_lay_46 rfl rfl rfl (by decide) (by decide) ?_
    rw [lyK, lyD, lyN, lyT, a_lay, hl]
    exact ⟨rfl, rfl, ⟨co, dr, cc, a1, a2, hw, rfl, hX.of (fun x y p q => g1 x y (by omega) (by omega) (by omega)), hS.of (fun b => ⟨g1 _ _ (by omega) (by omega) (by omega), g1 _ _ (by omega) (by omega) (by omega)⟩), hT.of (fun y => g1 _ _ (by omega) (by omega) (by omega)) (g1 _ _ (by omega) (by omega) (by omega)), hD.of (fun x y p q => g1 x y (by omega) (by omega) (by omega)) (g1 _ _ (by omega) (by omega) (by omega)), hC.of (fun x y p q => g1 x y (by omega) (by omega) (by omega)) (fun _ => rfl)⟩, fun x y p => g1 x y (by omega) (by omega) (by omega), fun _ _ _ => rfl⟩
  cases hr : (rdF t len (len + 1) K0 0).1 with
  | some k =>
    have hk := rdF_lt hr
    refine V_bipush (v := (-4)) dX10_lay_19 (by decide) ?_
    refine V_icmp_ne_t (tgt := 44) dX10_lay_21 (by decide) (nI_ne4 (by have := hT.1.1; omega)) ?_
    exact no (decide_eq_false (fun z => by rw [hr] at z; cases z.1)) _
  | none =>
    by_cases h0 : (rdF t len (len + 1) K0 0).2 0 0 = 0
    · refine V_bipush (v := (-4)) dX10_lay_19 (by decide) ?_
      refine V_icmp_ne_f (tgt := 44) dX10_lay_21 (by decide) (rfl) ?_
      refine V_aload_n dX10_lay_24 rfl rfl ?_
      refine V_getR dX10_lay_25 fl_X10_27 (by first | assumption | exact ⟨by decide, rfl⟩) (by first | assumption | rfl) ?_
      refine V_getI dX10_lay_28 fl_X10_110 (by first | assumption | exact ⟨by decide, rfl⟩) ?_
      refine V_if_eq_t (tgt := 44) dX10_lay_31 (by decide) (by rw [g2.1.1, h0]; rfl) ?_
      exact no (decide_eq_false (fun z => z.2.1 h0)) _
    · have n0 : I1 dr 0 ≠ 0 := by rw [g2.1.1, ← nI_0]; exact fun z => h0 ((nI_eq (by omega) (by decide)).mp z)
      by_cases h1 : (rdF t len (len + 1) K0 0).2 0 1 = 0
      · refine V_bipush (v := (-4)) dX10_lay_19 (by decide) ?_
        refine V_icmp_ne_f (tgt := 44) dX10_lay_21 (by decide) (rfl) ?_
        refine V_aload_n dX10_lay_24 rfl rfl ?_
        refine V_getR dX10_lay_25 fl_X10_27 (by first | assumption | exact ⟨by decide, rfl⟩) (by first | assumption | rfl) ?_
        refine V_getI dX10_lay_28 fl_X10_110 (by first | assumption | exact ⟨by decide, rfl⟩) ?_
        refine V_if_eq_f (tgt := 44) dX10_lay_31 (by decide) (n0) ?_
        refine V_aload_n dX10_lay_34 rfl rfl ?_
        refine V_getR dX10_lay_35 fl_X10_27 (by first | assumption | exact ⟨by decide, rfl⟩) (by first | assumption | rfl) ?_
        refine V_getI dX10_lay_38 fl_X10_113 (by first | assumption | exact ⟨by decide, rfl⟩) ?_
        refine V_if_ne_f (tgt := 47) dX10_lay_41 (by decide) (by rw [g2.1.2.1, h1]; rfl) ?_
        exact no (decide_eq_false (fun z => z.2.2 h1)) _
      · have n1 : I1 dr 1 ≠ 0 := by rw [g2.1.2.1, ← nI_0]; exact fun z => h1 ((nI_eq (by omega) (by decide)).mp z)
        have hl : lyOk t len = true := decide_eq_true ⟨hr, h0, h1⟩
        refine V_bipush (v := (-4)) dX10_lay_19 (by decide) ?_
        refine V_icmp_ne_f (tgt := 44) dX10_lay_21 (by decide) (rfl) ?_
        refine V_aload_n dX10_lay_24 rfl rfl ?_
        refine V_getR dX10_lay_25 fl_X10_27 (by first | assumption | exact ⟨by decide, rfl⟩) (by first | assumption | rfl) ?_
        refine V_getI dX10_lay_28 fl_X10_110 (by first | assumption | exact ⟨by decide, rfl⟩) ?_
        refine V_if_eq_f (tgt := 44) dX10_lay_31 (by decide) (n0) ?_
        refine V_aload_n dX10_lay_34 rfl rfl ?_
        refine V_getR dX10_lay_35 fl_X10_27 (by first | assumption | exact ⟨by decide, rfl⟩) (by first | assumption | rfl) ?_
        refine V_getI dX10_lay_38 fl_X10_113 (by first | assumption | exact ⟨by decide, rfl⟩) ?_
        refine V_if_ne_t (tgt := 47) dX10_lay_41 (by decide) (n1) ?_
        refine V_aload_n dX10_lay_47 rfl rfl ?_
        refine V_getR dX10_lay_48 fl_X10_23 (by first | assumption | exact ⟨by decide, rfl⟩) (by first | assumption | rfl) ?_
        refine V_astore_1 dX10_lay_51 (by decide) rfl (V_aload_n dX10_lay_52 rfl rfl (V_aload_n dX10_lay_53 rfl rfl ?_))
        refine V_getR dX10_lay_54 fl_X10_27 (by first | assumption | exact ⟨by decide, rfl⟩) (by first | assumption | rfl) ?_
        refine V_putR dX10_lay_57 fl_X10_23 (by first | assumption | exact ⟨by decide, rfl⟩) ?_
        refine V_aload_n dX10_lay_60 rfl rfl (V_aload_n dX10_lay_61 rfl rfl ?_)
        refine V_putR dX10_lay_62 fl_X10_27 (by first | assumption | exact ⟨by decide, rfl⟩) ?_
        rw [RR_co, RR_dr]
        have hrn : RR dr co cc a1 a2 0 3 = some dr := rfl
        obtain ⟨_, _, _, _, _, _, _, _, _, _, _, _, _, _, _, _, _, _, _, _, _, _, _⟩ := f_co (co := dr) (dr := co) (cc := cc) (a1 := a1) (a2 := a2) hdr
        refine V_aload_n dX10_lay_65 rfl rfl ?_
        refine V_getR dX10_lay_66 fl_X10_23 (by first | assumption | exact ⟨by decide, rfl⟩) (by first | assumption | rfl) ?_
        refine V_cV0v (M' := M_X3_settle) (d' := 3) dX10_lay_69 (Or.inl ml_X10_96) kb_X3_settle (by first | assumption | exact ⟨by decide, rfl⟩) (by first | decide | omega) (by simp [Value.category]) ⟨by decide, by decide⟩ ?_
        refine sp_settle hdr g3 g2 (fun I2 m1 m2 => ⟨rfl, ?_⟩)
        refine V_aload_n dX10_lay_72 rfl rfl ?_
        refine V_cV0v (M' := M_X10_startAnew) (d' := 3) dX10_lay_73 (Or.inl ml_X10_99) kb_X10_startAnew (by first | assumption | exact ⟨by decide, rfl⟩) (by first | decide | omega) (by simp [Value.category]) ⟨by decide, by decide⟩ ?_
        refine sp_startAnew (K := (rdF t len (len + 1) K0 0).2) (D1 := D1) (D2 := D2) (by omega) hP (fun I3 p1 p2 p3 => ⟨rfl, ?_⟩)
        have fr : ∀ x y, (x ≠ 0 ∨ y ≠ 8) → (x < 32 ∨ 34 < x) → x ≠ 41 → x ≠ 49 → x ≠ 53 → x ≠ 59 → (x < dr ∨ dr + 13 < x) → x ≠ 2 → x ≠ 3 → I3 x y = I x y := fun x y h1 h2 h3 h4 h5 h6 h7 h8 h9 => by
          rw [p1 x y h1 h2 h3 h4 h5 h6, m1 x y (by omega) (by omega), g1 x y (by omega) h8 h9]
        have hX3 : CoX I3 dr (rdF t len (len + 1) K0 0).2 := g2.of (fun x y a b => by rw [p1 x y (by omega) (by omega) (by omega) (by omega) (by omega) (by omega), m1 x y (by omega) (by omega)])
        refine V_aload_n dX10_lay_76 rfl rfl ?_
        refine V_getR dX10_lay_77 fl_X10_23 (by first | assumption | exact ⟨by decide, rfl⟩) (by first | assumption | rfl) ?_
        refine V_getI dX10_lay_80 fl_X10_110 (by first | assumption | exact ⟨by decide, rfl⟩) ?_
        refine V_ireturn dX10_lay_83 rfl rfl rfl (by decide) (by decide) ?_
        rw [hX3.1.1, lyK, lyD, lyN, lyT, a_lay, hl]
        exact ⟨rfl, rfl, ⟨dr, co, cc, a1, a2, hw.sw, rfl, hX3, m2.of (fun b => ⟨p1 _ _ (by omega) (by omega) (by omega) (by omega) (by omega) (by omega), p1 _ _ (by omega) (by omega) (by omega) (by omega) (by omega) (by omega)⟩), hT.of (fun y => fr _ _ (by omega) (by omega) (by omega) (by omega) (by omega) (by omega) (by omega) (by omega) (by omega)) (fr _ _ (by omega) (by omega) (by omega) (by omega) (by omega) (by omega) (by omega) (by omega) (by omega)), p2, p3⟩, fun x y p => fr _ _ (by omega) (by omega) (by omega) (by omega) (by omega) (by omega) (by omega) (by omega) (by omega), fun _ _ _ => rfl⟩
end
