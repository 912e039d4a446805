/-! Calls of the class: night -/
def plB (K : KT) (bs : List Nat) (p : Nat) : Nat := mk (fun i => decide (bs.getD i 0 = p + 1)) (K 0 1)
def ntS (K : KT) (bs : List Nat) (td : Nat) (sd : Nat → Nat) (ow : Nat → Int32) : Nat → (Nat → Nat) × (Nat → Int32)
  | 0 => (sd, ow)
  | p + 1 => (pnSd (K 0 1) td (ntS K bs td sd ow p).1 p (plB K bs p), pnOw K (ntS K bs td sd ow p).2 p (plB K bs p))
def ntD (K : KT) (D : Di) (off : Int32) : Di := if inR off (2 ^ K 0 0) && decide ((lea K (cl off) 0 D.1 D.2.1).1 < 1000000) then (D.1 + 1, ntS K (lea K (cl off) 0 D.1 D.2.1).2 D.1 D.2.1 D.2.2 (K 0 0)) else D
def a_night (K : KT) (D : Di) (off : Int32) : Int32 := if inR off (2 ^ K 0 0) then (if (lea K (cl off) 0 D.1 D.2.1).1 < 1000000 then nI (lea K (cl off) 0 D.1 D.2.1).1 else -4) else -1
section
variable {E : En} {I I' : TI} {J J' : TJ} {R : TR} {t : Nat → Nat} {len : Nat} {K : KT} {D D1 D2 : Di} {kp : Nat} {tl : Nat → Int32} {co dr : Nat} {cc a1 a2 : Option Nat}
theorem op_night {d : Nat} (hd : 14 ≤ d) (hB : KB K) (hDB : DB D.1 D.2.1) (h : CS t len K D D1 D2 kp tl I J R) {off : Int32} : Cal E d M_X10_night [.ref 0, .int off] NC I J R (OK t len K (ntD K D off) D1 D2 kp tl (some (.int (a_night K D off))) I J) := by
  have h' := h
  obtain ⟨co, dr, cc, a1, a2, hw, rfl, hX, hS, hT, hD, hC⟩ := h
  have hco := hw.co
  have hP := hB.1.1
  have hQ := hB.1.2.1
  have hpw : 2 ^ K 0 0 ≤ 1024 := Nat.pow_le_pow_right (n := 2) (by decide) hP
  have hrc : RR co dr cc a1 a2 0 3 = some co := rfl
  obtain ⟨_, _, _, _, _, _, _, _, _, _, _, _, _, _, _, _, _, _, _, _, _, _, _⟩ := f_co (co := co) (dr := dr) (cc := cc) (a1 := a1) (a2 := a2) (hco)
  refine Cal_of kn_X10_night rfl (Nat.le_of_ble_eq_true rfl) ?_
  refine V_aload_n dX10_night_0 rfl rfl ?_
  refine V_getR dX10_night_1 fl_X10_23 (by first | assumption | exact ⟨by decide, rfl⟩) (by first | assumption | rfl) ?_
  refine V_iload_n dX10_night_4 rfl rfl ?_
  refine V_cV1i (M' := M_X3_hasPlayers) (d' := 1) dX10_night_5 (Or.inl ml_X10_184) kb_X3_hasPlayers (by first | assumption | exact ⟨by decide, rfl⟩) (by first | decide | omega) (by simp [Value.category]) ⟨by decide, by decide⟩ ?_
  refine sp_hasPlayers hco hX.1.1 hP ⟨_, rfl, ?_⟩
  cases hv : inR off (2 ^ K 0 0)
  · refine V_if_ne_f (tgt := 13) dX10_night_8 (by decide) (rfl) ?_
    refine V_iconst (v := (-1)) dX10_night_11 (by decide) ?_
    refine V_ireturn dX10_night_12 rfl rfl rfl (by decide) (by decide) ?_
    rw [a_night, ntD, hv]
    exact OK.same h'
  · obtain ⟨q1, q2⟩ := inR_cl hv (by omega)
    rw [a_night, ntD, hv]
    generalize hkk : cl off = kk at *
    subst q2
    refine V_if_ne_t (tgt := 13) dX10_night_8 (by decide) (by decide) ?_
    refine V_aload_n dX10_night_13 rfl rfl ?_
    refine V_getR dX10_night_14 fl_X10_50 (by first | assumption | exact ⟨by decide, rfl⟩) (by first | assumption | rfl) ?_
    refine V_aload_n dX10_night_17 rfl rfl ?_
    refine V_getR dX10_night_18 fl_X10_23 (by first | assumption | exact ⟨by decide, rfl⟩) (by first | assumption | rfl) ?_
    refine V_aload_n dX10_night_21 rfl rfl ?_
    refine V_getR dX10_night_22 fl_X10_33 (by first | assumption | exact ⟨by decide, rfl⟩) (by first | assumption | rfl) ?_
    refine V_iload_n dX10_night_25 rfl rfl (V_iconst (v := 0) dX10_night_26 (by decide) ?_)
    refine V_cV4i (M' := M_X2_findLeast) (d' := 13) dX10_night_27 (Or.inl ml_X10_194) kb_X2_findLeast (by first | assumption | exact ⟨by decide, rfl⟩) (by first | decide | omega) (by simp [Value.category]) ⟨by decide, by decide⟩ ?_
    rw [show (0 : Int32) = nI 0 from rfl]
    refine sp_findLeast (cut := 0) hco hB hX hS hD.1 hDB (by decide) (fun I1 g1 g2 g3 => ⟨_, rfl, ?_⟩)
    have hX1 : CoX I1 co K := hX.of (fun x y a b => g1 x y (by omega))
    have hrc2 : RR co dr (some co) a1 a2 0 3 = some co := rfl
    have hD1 : DX I1 32 D.1 D.2.1 D.2.2 := hD.1.of (fun x y a b => g1 x y (by omega))
    by_cases hl : (lea K kk 0 D.1 D.2.1).1 < 1000000
    · rw [decide_eq_true hl, if_pos hl]
      obtain ⟨_, _, _, _, _, _, _, _, _, _, _, _, _, _, _, _, _, _, _, _, _, _, _⟩ := f_co (co := co) (dr := dr) (cc := some co) (a1 := a1) (a2 := a2) hco
      refine V_if_ne_t (tgt := 36) dX10_night_30 (by decide) (by decide) ?_
      refine V_iconst (v := 0) dX10_night_36 (by decide) (V_istore_2 dX10_night_37 (by decide) rfl ?_)
      have key : ∀ p, p ≤ K 0 0 → ∀ I2 : TI, (∀ x y, x ≠ 33 → x ≠ 34 → I2 x y = I1 x y) → DX I2 32 D.1 (ntS K (lea K kk 0 D.1 D.2.1).2 D.1 D.2.1 D.2.2 p).1 (ntS K (lea K kk 0 D.1 D.2.1).2 D.1 D.2.1 D.2.2 p).2 → V E d M_X10_night (OK t len K (D.1 + 1, ntS K (lea K kk 0 D.1 D.2.1).2 D.1 D.2.1 D.2.2 (K 0 0)) D1 D2 kp tl (some (.int (nI (lea K kk 0 D.1 D.2.1).1))) I J) 38 [some (.ref 0), some (.int (nI kk)), some (.int (nI p))] [] NC 0 0 I2 J (RR co dr (some co) a1 a2) := by
        refine loop_up _ ?_ ?_
        · intro I2 m1 m2
          have hX2 : CoX I2 co K := hX1.of (fun x y a b => m1 x y (by omega) (by omega))
          have fr : ∀ x y, x < 32 ∨ (34 < x ∧ x < 42) ∨ 47 < x → I2 x y = I x y := fun x y hx => by rw [m1 x y (by omega) (by omega), g1 x y (by omega)]
          refine V_iload_n dX10_night_38 rfl rfl (V_aload_n dX10_night_39 rfl rfl ?_)
          refine V_getR dX10_night_40 fl_X10_23 (by first | assumption | exact ⟨by decide, rfl⟩) (by first | assumption | rfl) ?_
          refine V_getI dX10_night_43 fl_X10_110 (by first | assumption | exact ⟨by decide, rfl⟩) ?_
          refine V_icmp_ge_t (tgt := 75) dX10_night_46 (by decide) (by rw [hX2.1.1]; exact nI_le (Nat.le_refl _) (by omega)) ?_
          refine V_aload_n dX10_night_75 rfl rfl ?_
          refine V_getR dX10_night_76 fl_X10_33 (by first | assumption | exact ⟨by decide, rfl⟩) (by first | assumption | rfl) ?_
          refine V_dup dX10_night_79 rfl ?_
          refine V_getI dX10_night_80 fl_X10_249 (by first | assumption | exact ⟨by decide, rfl⟩) ?_
          refine V_iconst (v := 1) dX10_night_83 (by decide) (V_iadd dX10_night_84 ?_)
          refine V_putI dX10_night_85 fl_X10_249 (by first | assumption | exact ⟨by decide, rfl⟩) ?_
          refine V_aload_n dX10_night_88 rfl rfl ?_
          refine V_getR dX10_night_89 fl_X10_50 (by first | assumption | exact ⟨by decide, rfl⟩) (by first | assumption | rfl) ?_
          refine V_getI dX10_night_92 fl_X10_198 (by first | assumption | exact ⟨by decide, rfl⟩) ?_
          refine V_ireturn dX10_night_95 rfl rfl rfl (by decide) (by decide) ?_
          rw [m2.1, nI_1, u2n (by omega), m1 42 8 (by omega) (by omega), g2]
          refine ⟨rfl, rfl, ⟨co, dr, some co, a1, a2, hw, rfl, hX.of (fun x y a b => by rw [u2n (by omega)]; exact fr x y (by omega)), hS.of (fun b => ⟨by rw [u2n (by omega)]; exact fr _ _ (by omega), by rw [u2n (by omega)]; exact fr _ _ (by omega)⟩), hT.of (fun y => by rw [u2n (by omega)]; exact fr _ _ (by omega)) (by rw [u2n (by omega)]; exact fr _ _ (by omega)), ⟨⟨by rw [u2e], fun j hj => by rw [u2n (by omega)]; exact m2.2.1 j hj, fun q hq => by rw [u2n (by omega)]; exact m2.2.2 q hq⟩, fun k => (hD.2.1 k).of (fun x y a b => by rw [u2n (by omega)]; exact fr _ _ (by omega)), fun k => (hD.2.2.1 k).of (fun x y a b => by rw [u2n (by omega)]; exact fr _ _ (by omega)), by rw [u2n (by omega), fr _ _ (by omega)]; exact hD.2.2.2.1, fun q hq => by rw [u2n (by omega), fr _ _ (by omega)]; exact hD.2.2.2.2 q hq⟩, hC.of (fun x y a b => by rw [u2n (by omega)]; exact fr _ _ (by omega)) (fun _ => rfl)⟩, fun x y a => by rw [u2n (by omega)]; exact fr _ _ (by omega), fun _ _ _ => rfl⟩
        · intro p hp ih I2 m1 m2
          have hX2 : CoX I2 co K := hX1.of (fun x y a b => m1 x y (by omega) (by omega))
          refine V_iload_n dX10_night_38 rfl rfl (V_aload_n dX10_night_39 rfl rfl ?_)
          refine V_getR dX10_night_40 fl_X10_23 (by first | assumption | exact ⟨by decide, rfl⟩) (by first | assumption | rfl) ?_
          refine V_getI dX10_night_43 fl_X10_110 (by first | assumption | exact ⟨by decide, rfl⟩) ?_
          refine V_icmp_ge_f (tgt := 75) dX10_night_46 (by decide) (by rw [hX2.1.1]; exact nI_ge hp (by omega)) ?_
          refine V_aload_n dX10_night_49 rfl rfl ?_
          refine V_getR dX10_night_50 fl_X10_33 (by first | assumption | exact ⟨by decide, rfl⟩) (by first | assumption | rfl) ?_
          refine V_aload_n dX10_night_53 rfl rfl ?_
          refine V_getR dX10_night_54 fl_X10_23 (by first | assumption | exact ⟨by decide, rfl⟩) (by first | assumption | rfl) ?_
          refine V_iload_n dX10_night_57 rfl rfl (V_aload_n dX10_night_58 rfl rfl ?_)
          refine V_getR dX10_night_59 fl_X10_50 (by first | assumption | exact ⟨by decide, rfl⟩) (by first | assumption | rfl) ?_
          refine V_iload_n dX10_night_62 rfl rfl ?_
          refine V_cV1i (M' := M_X2_partsPlayedBy) (d' := 1) dX10_night_63 (Or.inl ml_X10_296) kb_X2_partsPlayedBy (by first | assumption | exact ⟨by decide, rfl⟩) (by first | decide | omega) (by simp [Value.category]) ⟨by decide, by decide⟩ ?_
          refine sp_partsPlayedBy hco hB hX2 (bs := (lea K kk 0 D.1 D.2.1).2) (fun j hj => ⟨by rw [m1 _ _ (by omega) (by omega)]; exact g3 hl j hj, lea_le hB hl j⟩) (by omega) ⟨_, rfl, ?_⟩
          refine V_cV3v (M' := M_X4_playNight) (d' := 3) dX10_night_66 (Or.inl ml_X10_299) kb_X4_playNight (by first | assumption | exact ⟨by decide, rfl⟩) (by first | decide | omega) (by simp [Value.category]) ⟨by decide, by decide⟩ ?_
          refine sp_playNight hco hB hX2 m2 (by omega) (lt31 (mk_lt _ _) (by omega)) (fun I3 n1 n2 => ⟨rfl, ?_⟩)
          refine V_iinc_2 (w := 1) dX10_night_69 (by decide) (by decide) rfl (V_goto (tgt := 38) dX10_night_72 (by decide) ?_)
          rw [nI_1]
          exact ih I3 (fun x y h1 h2 => by rw [n1 x y h1 h2]; exact m1 x y h1 h2) n2
      exact key 0 (Nat.zero_le _) I1 (fun _ _ _ _ => rfl) hD1
    · rw [decide_eq_false hl, if_neg hl]
      refine V_if_ne_f (tgt := 36) dX10_night_30 (by decide) (rfl) ?_
      refine V_bipush (v := (-4)) dX10_night_33 (by decide) ?_
      refine V_ireturn dX10_night_35 rfl rfl rfl (by decide) (by decide) ?_
      refine ⟨rfl, rfl, CS.put hw hX hS hT hD (fun x y hx => g1 x y (by omega)) (hC.of (fun x y a b => g1 x y (by omega)) (fun _ => rfl)), fun x y hx => g1 x y (by omega), fun _ _ _ => rfl⟩
end
