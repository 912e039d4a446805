/-! Calls of the class: least -/
def lsP (K : KT) (x : Int32) : Bool := if x < 0 then decide (-3 ≤ x) else inR x (K 0 1)
def a_least (K : KT) (D : Di) (off cut x : Int32) : Int32 :=
  if lsP K x && (inR off (2 ^ K 0 0) && inR cut (2 ^ K 0 1)) then
    (if ¬ x < 0 ∧ (cl cut).testBit (cl x) = true then -2
    else if (lea K (cl off) (cl cut) D.1 D.2.1).1 < 1000000 then
      (if x = -1 then nI (lea K (cl off) (cl cut) D.1 D.2.1).1
      else if x = -2 then nI (fb_ct (fun i => decide ((lea K (cl off) (cl cut) D.1 D.2.1).2.getD i 0 ≠ 0 ∧ (lea K (cl off) (cl cut) D.1 D.2.1).2.getD i 0 ≠ K 7 i)) (K 0 1))
      else if x = -3 then nI (fb_sm (fun i => if (lea K (cl off) (cl cut) D.1 D.2.1).2.getD i 0 = 0 then 0 else K 6 i - kpt K D.1 D.2.1 ((lea K (cl off) (cl cut) D.1 D.2.1).2.getD i 0 - 1) i) (K 0 1))
      else owv ((lea K (cl off) (cl cut) D.1 D.2.1).2.getD (cl x) 0))
    else -4)
  else -1
theorem neg3 {x : Int32} (h0 : x < 0) (h3 : ¬ x < -3) : x = -1 ∨ x = -2 ∨ x = -3 := by
  have q0 := Int32.lt_iff_toInt_lt.mp h0
  have q3 := (not_congr Int32.lt_iff_toInt_lt).mp h3
  have e0 : (0 : Int32).toInt = 0 := by decide
  have e3 : (-3 : Int32).toInt = -3 := by decide
  have e2 : (-2 : Int32).toInt = -2 := by decide
  have e1 : (-1 : Int32).toInt = -1 := by decide
  rcases (show x.toInt = -1 ∨ x.toInt = -2 ∨ x.toInt = -3 by omega) with h | h | h
  · left; exact Int32.toInt_inj.mp (by rw [h, e1])
  · right; left; exact Int32.toInt_inj.mp (by rw [h, e2])
  · right; right; exact Int32.toInt_inj.mp (by rw [h, e3])
section
variable {E : En} {I I' : TI} {J J' : TJ} {R : TR} {t : Nat → Nat} {len : Nat} {K : KT} {D D1 D2 : Di} {kp : Nat} {tl : Nat → Int32} {co dr : Nat} {cc a1 a2 : Option Nat}
theorem op_least {d : Nat} (hd : 14 ≤ d) (hB : KB K) (hDB : DB D.1 D.2.1) (h : CS t len K D D1 D2 kp tl I J R) {off cut x : Int32} : Cal E d M_X10_least [.ref 0, .int off, .int cut, .int x] NC I J R (OK t len K D D1 D2 kp tl (some (.int (a_least K D off cut x))) I J) := by
  have h' := h
  obtain ⟨co, dr, cc, a1, a2, hw, rfl, hX, hS, hT, hD, hC⟩ := h
  have hco := hw.co
  have hP := hB.1.1
  have hQ := hB.1.2.1
  have hpw : 2 ^ K 0 0 ≤ 1024 := Nat.pow_le_pow_right (n := 2) (by decide) hP
  have hqw : 2 ^ K 0 1 ≤ 256 := Nat.pow_le_pow_right (n := 2) (by decide) hQ
  have hrc : RR co dr cc a1 a2 0 3 = some co := rfl
  obtain ⟨_, _, _, _, _, _, _, _, _, _, _, _, _, _, _, _, _, _, _, _, _, _, _⟩ := f_co (co := co) (dr := dr) (cc := cc) (a1 := a1) (a2 := a2) (hco)
  -- from 26 on, the part being told or not
  have rest : ∀ b : Bool, lsP K x = b → V E d M_X10_least (OK t len K D D1 D2 kp tl (some (.int (a_least K D off cut x))) I J) 26 [some (.ref 0), some (.int off), some (.int cut), some (.int x), none] [.int (b2i b)] NC 0 0 I J (RR co dr cc a1 a2) := by
    intro b hb
    cases b
    · refine V_istore_4 dX10_least_26 (by decide) rfl (V_iload dX10_least_28 rfl ?_)
      refine V_if_eq_t (tgt := 55) dX10_least_30 (by decide) (rfl) ?_
      refine V_iconst (v := (-1)) dX10_least_55 (by decide) ?_
      refine V_ireturn dX10_least_56 rfl rfl rfl (by decide) (by decide) ?_
      rw [a_least, hb]; exact OK.same h'
    · refine V_istore_4 dX10_least_26 (by decide) rfl (V_iload dX10_least_28 rfl ?_)
      refine V_if_eq_f (tgt := 55) dX10_least_30 (by decide) (by decide) ?_
      refine V_aload_n dX10_least_33 rfl rfl ?_
      refine V_getR dX10_least_34 fl_X10_23 (by first | assumption | exact ⟨by decide, rfl⟩) (by first | assumption | rfl) ?_
      refine V_iload_n dX10_least_37 rfl rfl ?_
      refine V_cV1i (M' := M_X3_hasPlayers) (d' := 1) dX10_least_38 (Or.inl ml_X10_184) kb_X3_hasPlayers (by first | assumption | exact ⟨by decide, rfl⟩) (by first | decide | omega) (by simp [Value.category]) ⟨by decide, by decide⟩ ?_
      refine sp_hasPlayers hco hX.1.1 hP ⟨_, rfl, ?_⟩
      cases hv : inR off (2 ^ K 0 0)
      · refine V_if_eq_t (tgt := 55) dX10_least_41 (by decide) (rfl) ?_
        refine V_iconst (v := (-1)) dX10_least_55 (by decide) ?_
        refine V_ireturn dX10_least_56 rfl rfl rfl (by decide) (by decide) ?_
        rw [a_least, hv, Bool.false_and, Bool.and_false]; exact OK.same h'
      · obtain ⟨q1, q2⟩ := inR_cl hv (by omega)
        refine V_if_eq_f (tgt := 55) dX10_least_41 (by decide) (by decide) ?_
        refine V_aload_n dX10_least_44 rfl rfl ?_
        refine V_getR dX10_least_45 fl_X10_23 (by first | assumption | exact ⟨by decide, rfl⟩) (by first | assumption | rfl) ?_
        refine V_iload_n dX10_least_48 rfl rfl ?_
        refine V_cV1i (M' := M_X3_hasParts) (d' := 1) dX10_least_49 (Or.inl ml_X10_187) kb_X3_hasParts (by first | assumption | exact ⟨by decide, rfl⟩) (by first | decide | omega) (by simp [Value.category]) ⟨by decide, by decide⟩ ?_
        refine sp_hasParts hco hX.1.2.1 (by omega) ⟨_, rfl, ?_⟩
        cases hv2 : inR cut (2 ^ K 0 1)
        · refine V_if_ne_f (tgt := 57) dX10_least_52 (by decide) (rfl) ?_
          refine V_iconst (v := (-1)) dX10_least_55 (by decide) ?_
          refine V_ireturn dX10_least_56 rfl rfl rfl (by decide) (by decide) ?_
          rw [a_least, hv2, Bool.and_false, Bool.and_false]; exact OK.same h'
        · obtain ⟨q3, q4⟩ := inR_cl hv2 (by omega)
          rw [a_least, hb, hv, hv2]
          generalize hkk : cl off = kk at *
          generalize hww : cl cut = ww at *
          subst q2 q4
          have go : ¬ (¬ x < 0 ∧ ww.testBit (cl x) = true) → V E d M_X10_least (OK t len K D D1 D2 kp tl (some (.int (if (lea K kk ww D.1 D.2.1).1 < 1000000 then (if x = -1 then nI (lea K kk ww D.1 D.2.1).1 else if x = -2 then nI (fb_ct (fun i => decide ((lea K kk ww D.1 D.2.1).2.getD i 0 ≠ 0 ∧ (lea K kk ww D.1 D.2.1).2.getD i 0 ≠ K 7 i)) (K 0 1)) else if x = -3 then nI (fb_sm (fun i => if (lea K kk ww D.1 D.2.1).2.getD i 0 = 0 then 0 else K 6 i - kpt K D.1 D.2.1 ((lea K kk ww D.1 D.2.1).2.getD i 0 - 1) i) (K 0 1)) else owv ((lea K kk ww D.1 D.2.1).2.getD (cl x) 0)) else -4))) I J) 72 [some (.ref 0), some (.int (nI kk)), some (.int (nI ww)), some (.int x), some (.int 1)] [] NC 0 0 I J (RR co dr cc a1 a2) := by
            intro hno
            refine V_aload_n dX10_least_72 rfl rfl ?_
            refine V_getR dX10_least_73 fl_X10_50 (by first | assumption | exact ⟨by decide, rfl⟩) (by first | assumption | rfl) ?_
            refine V_aload_n dX10_least_76 rfl rfl ?_
            refine V_getR dX10_least_77 fl_X10_23 (by first | assumption | exact ⟨by decide, rfl⟩) (by first | assumption | rfl) ?_
            refine V_aload_n dX10_least_80 rfl rfl ?_
            refine V_getR dX10_least_81 fl_X10_33 (by first | assumption | exact ⟨by decide, rfl⟩) (by first | assumption | rfl) ?_
            refine V_iload_n dX10_least_84 rfl rfl (V_iload_n dX10_least_85 rfl rfl ?_)
            refine V_cV4i (M' := M_X2_findLeast) (d' := 13) dX10_least_86 (Or.inl ml_X10_194) kb_X2_findLeast (by first | assumption | exact ⟨by decide, rfl⟩) (by first | decide | omega) (by simp [Value.category]) ⟨by decide, by decide⟩ ?_
            refine sp_findLeast hco hB hX hS hD.1 hDB (by omega) (fun I1 g1 g2 g3 => ⟨_, rfl, ?_⟩)
            have hcs : CS t len K D D1 D2 kp tl I1 J (RR co dr (some co) a1 a2) := CS.put hw hX hS hT hD (fun x y hx => g1 x y (by omega)) (hC.of (fun x y a b => g1 x y (by omega)) (fun _ => rfl))
            have hok : ∀ v, OK t len K D D1 D2 kp tl v I J v NC I1 J (RR co dr (some co) a1 a2) := fun v => ⟨rfl, rfl, hcs, fun x y hx => g1 x y (by omega), fun _ _ _ => rfl⟩
            have hX1 : CoX I1 co K := hX.of (fun x y a b => g1 x y (by omega))
            have hD1 : DX I1 32 D.1 D.2.1 D.2.2 := hD.1.of (fun x y a b => g1 x y (by omega))
            by_cases hl : (lea K kk ww D.1 D.2.1).1 < 1000000
            · rw [decide_eq_true hl, if_pos hl]
              have hbs : ∀ j, j < K 0 1 → I1 47 j = owv ((lea K kk ww D.1 D.2.1).2.getD j 0) ∧ (lea K kk ww D.1 D.2.1).2.getD j 0 ≤ 10 := fun j hj => ⟨g3 hl j hj, lea_le hB hl j⟩
              refine V_if_ne_t (tgt := 95) dX10_least_89 (by decide) (by decide) ?_
              refine V_iload_n dX10_least_95 rfl rfl ?_
              by_cases hx0 : x < 0
              · have hx3 : ¬ x < -3 := by
                  unfold lsP at hb
                  rw [if_pos hx0] at hb
                  have := Int32.le_iff_toInt_le.mp (of_decide_eq_true hb)
                  rw [Int32.lt_iff_toInt_lt]
                  omega
                rcases neg3 hx0 hx3 with rfl | rfl | rfl
                · refine V_tableIn (off := 28) (tgt := 124) dX10_least_96 (by decide) (by decide) (by decide) (by decide) ?_
                  refine V_aload_n dX10_least_124 rfl rfl ?_
                  refine V_getR dX10_least_125 fl_X10_50 (by first | assumption | exact ⟨by decide, rfl⟩) (by first | assumption | rfl) ?_
                  refine V_getI dX10_least_128 fl_X10_198 (by first | assumption | exact ⟨by decide, rfl⟩) ?_
                  refine V_ireturn dX10_least_131 rfl rfl rfl (by decide) (by decide) ?_
                  rw [g2, if_pos rfl]; exact hok _
                · refine V_tableIn (off := 36) (tgt := 132) dX10_least_96 (by decide) (by decide) (by decide) (by decide) ?_
                  refine V_aload_n dX10_least_132 rfl rfl ?_
                  refine V_getR dX10_least_133 fl_X10_50 (by first | assumption | exact ⟨by decide, rfl⟩) (by first | assumption | rfl) ?_
                  refine V_cV0i (M' := M_X2_partsNotByOwners) (d' := 1) dX10_least_136 (Or.inl ml_X10_201) kb_X2_partsNotByOwners (by first | assumption | exact ⟨by decide, rfl⟩) (by first | decide | omega) (by simp [Value.category]) ⟨by decide, by decide⟩ ?_
                  refine sp_partsNotByOwners hco hB hX1 hbs ⟨_, rfl, ?_⟩
                  refine V_ireturn dX10_least_139 rfl rfl rfl (by decide) (by decide) ?_
                  rw [if_neg (by decide), if_pos rfl]; exact hok _
                · refine V_tableIn (off := 44) (tgt := 140) dX10_least_96 (by decide) (by decide) (by decide) (by decide) ?_
                  refine V_aload_n dX10_least_140 rfl rfl ?_
                  refine V_getR dX10_least_141 fl_X10_50 (by first | assumption | exact ⟨by decide, rfl⟩) (by first | assumption | rfl) ?_
                  refine V_aload_n dX10_least_144 rfl rfl ?_
                  refine V_getR dX10_least_145 fl_X10_33 (by first | assumption | exact ⟨by decide, rfl⟩) (by first | assumption | rfl) ?_
                  refine V_cV1i (M' := M_X2_forgottenLines) (d' := 3) dX10_least_148 (Or.inl ml_X10_205) kb_X2_forgottenLines (by first | assumption | exact ⟨by decide, rfl⟩) (by first | decide | omega) (by simp [Value.category]) ⟨by decide, by decide⟩ ?_
                  refine sp_forgottenLines hco hB hX1 hD1 hDB hbs ⟨_, rfl, ?_⟩
                  refine V_ireturn dX10_least_151 rfl rfl rfl (by decide) (by decide) ?_
                  rw [if_neg (by decide), if_neg (by decide), if_pos rfl]; exact hok _
              · have hxr : inR x (K 0 1) = true := by
                  unfold lsP at hb
                  rw [if_neg hx0] at hb
                  exact hb
                obtain ⟨p1, p2⟩ := inR_cl hxr (by omega)
                have hti : 0 ≤ x.toInt := by
                  have := (not_congr Int32.lt_iff_toInt_lt).mp hx0
                  have e0 : (0 : Int32).toInt = 0 := by decide
                  omega
                refine V_tableOut (tgt := 152) dX10_least_96 (Or.inr (by omega)) (by decide) ?_
                refine V_aload_n dX10_least_152 rfl rfl ?_
                refine V_getR dX10_least_153 fl_X10_50 (by first | assumption | exact ⟨by decide, rfl⟩) (by first | assumption | rfl) ?_
                refine V_getR dX10_least_156 fl_X10_209 (by first | assumption | exact ⟨by decide, rfl⟩) (by first | assumption | rfl) ?_
                refine V_iload_n dX10_least_159 rfl rfl ?_
                refine V_ial dX10_least_160 (by first | assumption | exact ⟨by decide, rfl⟩) (show ix _ (cl x) 8 from ⟨p2, by omega⟩) ?_
                refine V_ireturn dX10_least_161 rfl rfl rfl (by decide) (by decide) ?_
                rw [(hbs (cl x) p1).1, if_neg (fun z => hx0 (by rw [z]; decide)), if_neg (fun z => hx0 (by rw [z]; decide)), if_neg (fun z => hx0 (by rw [z]; decide))]
                exact hok _
            · rw [decide_eq_false hl, if_neg hl]
              refine V_if_ne_f (tgt := 95) dX10_least_89 (by decide) (rfl) ?_
              refine V_bipush (v := (-4)) dX10_least_92 (by decide) ?_
              refine V_ireturn dX10_least_94 rfl rfl rfl (by decide) (by decide) ?_
              exact hok _
          by_cases hx0 : x < 0
          · have hno : ¬ (¬ x < 0 ∧ ww.testBit (cl x) = true) := fun z => z.1 hx0
            refine V_if_ne_t (tgt := 57) dX10_least_52 (by decide) (by decide) ?_
            refine V_iload_n dX10_least_57 rfl rfl ?_
            refine V_if_lt_t (tgt := 72) dX10_least_58 (by decide) (hx0) ?_
            rw [if_pos (by rfl), if_neg hno]
            exact go hno
          · have hxr : inR x (K 0 1) = true := by
              unfold lsP at hb
              rw [if_neg hx0] at hb
              exact hb
            obtain ⟨p1, p2⟩ := inR_cl hxr (by omega)
            refine V_if_ne_t (tgt := 57) dX10_least_52 (by decide) (by decide) ?_
            refine V_iload_n dX10_least_57 rfl rfl ?_
            refine V_if_lt_f (tgt := 72) dX10_least_58 (by decide) (hx0) ?_
            refine V_iload_n dX10_least_61 rfl rfl (V_iload_n dX10_least_62 rfl rfl ?_)
            refine V_cS2i (M' := M_X10_has) (d' := 1) dX10_least_63 (Or.inl ml_X10_181) kb_X10_has (by first | decide | omega) (by simp [Value.category]) ⟨by decide, by decide⟩ ?_
            rw [show [Value.int (nI ww), Value.int x] = [Value.int (nI ww), Value.int (nI (cl x))] by rw [← p2]]
            refine sp_has (by omega) (by omega) ⟨_, rfl, ?_⟩
            cases hcb : ww.testBit (cl x)
            · have hno : ¬ (¬ x < 0 ∧ ww.testBit (cl x) = true) := fun z => by rw [hcb] at z; exact absurd z.2 (by decide)
              refine V_if_eq_t (tgt := 72) dX10_least_66 (by decide) (rfl) ?_
              rw [hcb] at hno go
              rw [if_pos (by rfl), if_neg hno]
              exact go hno
            · refine V_if_eq_f (tgt := 72) dX10_least_66 (by decide) (by decide) ?_
              refine V_bipush (v := (-2)) dX10_least_69 (by decide) ?_
              refine V_ireturn dX10_least_71 rfl rfl rfl (by decide) (by decide) ?_
              rw [if_pos (by rfl), if_pos ⟨hx0, rfl⟩]
              exact OK.same h'
  refine Cal_of kn_X10_least rfl (Nat.le_of_ble_eq_true rfl) ?_
  by_cases hx0 : x < 0
  · by_cases hx3 : x < -3
    · refine V_iload_n dX10_least_0 rfl rfl ?_
      refine V_if_lt_t (tgt := 15) dX10_least_1 (by decide) (hx0) ?_
      refine V_iload_n dX10_least_15 rfl rfl (V_bipush (v := (-3)) dX10_least_16 (by decide) ?_)
      refine V_icmp_lt_t (tgt := 25) dX10_least_18 (by decide) (hx3) ?_
      refine V_iconst (v := 0) dX10_least_25 (by decide) ?_
      refine rest false ?_
      unfold lsP
      rw [if_pos hx0]
      refine decide_eq_false (fun z => ?_)
      have q1 := Int32.lt_iff_toInt_lt.mp hx3
      have q2 := Int32.le_iff_toInt_le.mp z
      omega
    · refine V_iload_n dX10_least_0 rfl rfl ?_
      refine V_if_lt_t (tgt := 15) dX10_least_1 (by decide) (hx0) ?_
      refine V_iload_n dX10_least_15 rfl rfl (V_bipush (v := (-3)) dX10_least_16 (by decide) ?_)
      refine V_icmp_lt_f (tgt := 25) dX10_least_18 (by decide) (hx3) ?_
      refine V_iconst (v := 1) dX10_least_21 (by decide) (V_goto (tgt := 26) dX10_least_22 (by decide) ?_)
      refine rest true ?_
      unfold lsP
      rw [if_pos hx0]
      refine decide_eq_true ?_
      have q1 := (not_congr Int32.lt_iff_toInt_lt).mp hx3
      rw [Int32.le_iff_toInt_le]
      omega
  · refine V_iload_n dX10_least_0 rfl rfl ?_
    refine V_if_lt_f (tgt := 15) dX10_least_1 (by decide) (hx0) ?_
    refine V_aload_n dX10_least_4 rfl rfl ?_
    refine V_getR dX10_least_5 fl_X10_23 (by first | assumption | exact ⟨by decide, rfl⟩) (by first | assumption | rfl) ?_
    refine V_iload_n dX10_least_8 rfl rfl ?_
    refine V_cV1i (M' := M_X3_hasPart) (d' := 1) dX10_least_9 (Or.inl ml_X10_151) kb_X3_hasPart (by first | assumption | exact ⟨by decide, rfl⟩) (by first | decide | omega) (by simp [Value.category]) ⟨by decide, by decide⟩ ?_
    refine sp_hasPart hco hX.1.2.1 (by omega) ⟨_, rfl, ?_⟩
    refine V_goto (tgt := 26) dX10_least_12 (by decide) ?_
    refine rest _ ?_
    unfold lsP
    rw [if_neg hx0]
end
