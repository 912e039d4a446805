/-! Calls of the reference: ways, least, cuts, weak -/
theorem lea_met {K : KT} (hB : KB K) (off cut td : Nat) (sd : Nat → Nat) : metB K off cut = decide ((lea K off cut td sd).1 < 1000000) := by
  cases hm : metB K off cut
  · symm
    apply decide_eq_false
    intro h
    have := (lea_ok h).1
    have hmm : metB K off cut = true := dcd_t ⟨_, this⟩
    rw [hmm] at hm; cases hm
  · symm
    apply decide_eq_true
    obtain ⟨l, hl⟩ := dcd_iff.mp hm
    have h1 := (bst_le (trb K td sd) 0 0 [] (CL (K 0 0) (okf K off) (ctf cut) (clashM K) (K 0 1) 0 (fun _ => 0)) (1000000, [])).2 l hl
    have h2 := TS_le hB (td := td) (sd := sd) (K 0 1) 0 _ l (by omega) hl
    have hQ := hB.1.2.1
    have h3 : K 0 1 * 1990 ≤ 8 * 1990 := Nat.mul_le_mul_right 1990 hQ
    show (bst _ 0 0 [] _ _).1 < 1000000
    omega
theorem in_L {K : KT} (hQ : K 0 1 ≤ 8) {x : Int32} : decide ((-3 : Int64).toInt ≤ x.toInt64.toInt ∧ x.toInt64.toInt ≤ (nI (K 0 1) - 1).toInt64.toInt) = lsP K x := by
  have e3 : (-3 : Int32).toInt = -3 := by decide
  have e0 : (0 : Int32).toInt = 0 := by decide
  rw [i2l_toInt, i2l_toInt, sub1_toInt (by omega), show (-3 : Int64).toInt = -3 from by decide]
  unfold lsP
  by_cases h : x < 0
  · rw [if_pos h]
    have h2 := (fa_lt _ _).mp h
    refine decide_eq_decide.mpr ?_
    rw [fa_le, e3]
    omega
  · rw [if_neg h]
    have h2 := (not_congr (fa_lt _ _)).mp h
    unfold inR
    exact decide_eq_decide.mpr (by omega)
section
variable {E : En} {I : TI} {J : TJ} {co dr : Nat} {cc a1 a2 : Option Nat} {Post : PT} {t : Nat → Nat} {len : Nat} {K : KT} {D D1 D2 : Di} {kp : Nat} {tl : Nat → Int32} {d : Nat}
theorem FrC.MS {I' : TI} (g : FrC I I') (h : MS t len K D D1 D2 kp tl I) : MS t len K D D1 D2 kp tl I' := h.sc (fun x y a b => g x y (by omega) (by omega) (by omega) (by omega)) (g _ _ (by omega) (by omega) (by omega) (by omega)) (g _ _ (by omega) (by omega) (by omega) (by omega))
theorem FrC.lo {I' : TI} (g : FrC I I') : ∀ x y, x < 70 → I' x y = I x y := fun x y a => g x y (by omega) (by omega) (by omega) (by omega)
theorem FrC.trans {I1 I2 : TI} (g : FrC I I1) (h : FrC I1 I2) : FrC I I2 := fun x y a b c e => (h x y a b c e).trans (g x y a b c e)
theorem FrC.refl : FrC I I := fun _ _ _ _ _ _ => rfl
theorem pw31 {n : Nat} (hn : n ≤ 10) {o : Nat} (h : o < 2 ^ n) : o < 2 ^ 31 := lt31 h (by omega)
theorem rop_ways (hd : 5 ≤ d) (hDB : DB D.1 D.2.1) (h : MS t len K D D1 D2 kp tl I) {off cut : Int32} : Cal E d M_X11_ways [.ref 70, .int off, .int cut] NC I J (RR co dr cc a1 a2) (MK t len K D D1 D2 kp tl (some (.long (a_ways K off cut))) I J (RR co dr cc a1 a2)) := by
  have h' := h
  obtain ⟨hB, hM, hR, hT, hD⟩ := h
  have hP := hB.1.1
  have hQ := hB.1.2.1
  refine Cal_of kn_X11_ways rfl (Nat.le_of_ble_eq_true rfl) ?_
  refine V_aload_n dX11_ways_0 rfl rfl (V_iload_n dX11_ways_1 rfl rfl ?_)
  refine V_cV1i (M' := M_X11_isOff) (d' := 2) dX11_ways_2 (Or.inl ml_X11_229) kb_X11_isOff (by first | assumption | exact ⟨by decide, rfl⟩) (by first | decide | omega) (by simp [Value.category]) ⟨by decide, by decide⟩ ?_
  refine mr_isOff hM.n0 hP ⟨_, rfl, ?_⟩
  cases hv : inR off (2 ^ K 0 0)
  · refine V_if_eq_t (tgt := 16) dX11_ways_5 (by decide) (rfl) ?_
    refine V_lconst (v := 0) dX11_ways_16 rfl ?_
    refine V_lreturn dX11_ways_17 rfl rfl (by decide) (by decide) ?_
    rw [a_ways, hv]; exact MK.same h'
  · obtain ⟨q1, q2⟩ := inR_cl hv (Nat.pow_lt_pow_right (by decide) (by omega))
    refine V_if_eq_f (tgt := 16) dX11_ways_5 (by decide) (by decide) ?_
    refine V_aload_n dX11_ways_8 rfl rfl (V_iload_n dX11_ways_9 rfl rfl ?_)
    refine V_cV1i (M' := M_X11_isCut) (d' := 2) dX11_ways_10 (Or.inl ml_X11_232) kb_X11_isCut (by first | assumption | exact ⟨by decide, rfl⟩) (by first | decide | omega) (by simp [Value.category]) ⟨by decide, by decide⟩ ?_
    refine mr_isCut hM.n1 hQ ⟨_, rfl, ?_⟩
    cases hv2 : inR cut (2 ^ K 0 1)
    · refine V_if_ne_f (tgt := 18) dX11_ways_13 (by decide) (rfl) ?_
      refine V_lconst (v := 0) dX11_ways_16 rfl ?_
      refine V_lreturn dX11_ways_17 rfl rfl (by decide) (by decide) ?_
      rw [a_ways, hv, hv2]; exact MK.same h'
    · obtain ⟨q3, q4⟩ := inR_cl hv2 (Nat.pow_lt_pow_right (by decide) (by omega))
      refine V_if_ne_t (tgt := 18) dX11_ways_13 (by decide) (by decide) ?_
      refine V_aload_n dX11_ways_18 rfl rfl (V_iload_n dX11_ways_19 rfl rfl (V_iload_n dX11_ways_20 rfl rfl (V_iconst (v := 1) dX11_ways_21 (by decide) ?_)))
      refine V_cV3i (M' := M_X11_cast) (d' := 4) dX11_ways_22 (Or.inl ml_X11_235) kb_X11_cast (by first | assumption | exact ⟨by decide, rfl⟩) (by first | decide | omega) (by simp [Value.category]) ⟨by decide, by decide⟩ ?_
      rw [show [Value.ref 70, Value.int off, Value.int cut, Value.int 1] = [Value.ref 70, Value.int (nI (cl off)), Value.int (nI (cl cut)), Value.int (b2i true)] by rw [← q2, ← q4]; rfl]
      refine mr_cast (all := true) hB hM hR hD.1 hDB (pw31 hP q1) (pw31 (by omega) q3) (fun z => by cases z) (fun _ I1 J1 g1 g2 g3 g4 => ⟨_, rfl, ?_⟩)
      refine V_pop dX11_ways_25 rfl (V_aload_n dX11_ways_26 rfl rfl ?_)
      refine V_getJ dX11_ways_27 fl_X11_212 (by first | assumption | exact ⟨by decide, rfl⟩) ?_
      refine V_lreturn dX11_ways_30 rfl rfl (by decide) (by decide) ?_
      rw [g3, a_ways, hv, hv2]
      exact ⟨rfl, rfl, rfl, g1.MS h', g1.lo, fun x y a => g2 x y (by omega)⟩
theorem rop_least (hd : 5 ≤ d) (hDB : DB D.1 D.2.1) (h : MS t len K D D1 D2 kp tl I) {off cut x : Int32} : Cal E d M_X11_least [.ref 70, .int off, .int cut, .int x] NC I J (RR co dr cc a1 a2) (MK t len K D D1 D2 kp tl (some (.int (a_least K D off cut x))) I J (RR co dr cc a1 a2)) := by
  have h' := h
  obtain ⟨hB, hM, hR, hT, hD⟩ := h
  have hP := hB.1.1
  have hQ := hB.1.2.1
  refine Cal_of kn_X11_least rfl (Nat.le_of_ble_eq_true rfl) ?_
  refine V_aload_n dX11_least_0 rfl rfl (V_iload_n dX11_least_1 rfl rfl ?_)
  refine V_cV1i (M' := M_X11_isOff) (d' := 2) dX11_least_2 (Or.inl ml_X11_229) kb_X11_isOff (by first | assumption | exact ⟨by decide, rfl⟩) (by first | decide | omega) (by simp [Value.category]) ⟨by decide, by decide⟩ ?_
  refine mr_isOff hM.n0 hP ⟨_, rfl, ?_⟩
  cases hv : inR off (2 ^ K 0 0)
  · refine V_if_eq_t (tgt := 36) dX11_least_5 (by decide) (rfl) ?_
    refine V_iconst (v := (-1)) dX11_least_36 (by decide) ?_
    refine V_ireturn dX11_least_37 rfl rfl rfl (by decide) (by decide) ?_
    refine MK.eq ?_ h'
    rw [a_least, hv]; simp
  · obtain ⟨q1, q2⟩ := inR_cl hv (Nat.pow_lt_pow_right (by decide) (by omega))
    refine V_if_eq_f (tgt := 36) dX11_least_5 (by decide) (by decide) ?_
    refine V_aload_n dX11_least_8 rfl rfl (V_iload_n dX11_least_9 rfl rfl ?_)
    refine V_cV1i (M' := M_X11_isCut) (d' := 2) dX11_least_10 (Or.inl ml_X11_232) kb_X11_isCut (by first | assumption | exact ⟨by decide, rfl⟩) (by first | decide | omega) (by simp [Value.category]) ⟨by decide, by decide⟩ ?_
    refine mr_isCut hM.n1 hQ ⟨_, rfl, ?_⟩
    cases hv2 : inR cut (2 ^ K 0 1)
    · refine V_if_eq_t (tgt := 36) dX11_least_13 (by decide) (rfl) ?_
      refine V_iconst (v := (-1)) dX11_least_36 (by decide) ?_
      refine V_ireturn dX11_least_37 rfl rfl rfl (by decide) (by decide) ?_
      refine MK.eq ?_ h'
      rw [a_least, hv, hv2]; simp
    · obtain ⟨q3, q4⟩ := inR_cl hv2 (Nat.pow_lt_pow_right (by decide) (by omega))
      refine V_if_eq_f (tgt := 36) dX11_least_13 (by decide) (by decide) ?_
      refine V_iload_n dX11_least_16 rfl rfl (V_i2l dX11_least_17 (V_ldc2_w dX11_least_18 ct_X11_239 (V_aload_n dX11_least_21 rfl rfl ?_)))
      refine V_getR dX11_least_22 fl_X11_22 (by first | assumption | exact ⟨by decide, rfl⟩) (by first | assumption | rfl) ?_
      refine V_iconst (v := 0) dX11_least_25 (by decide) ?_
      refine V_ial dX11_least_26 (by first | assumption | exact ⟨by decide, rfl⟩) (show ix _ 0 _ from ⟨rfl, by decide⟩) ?_
      refine V_iconst (v := 1) dX11_least_27 (by decide) (V_isub dX11_least_28 (V_i2l dX11_least_29 ?_))
      refine V_cS3i (M' := M_X11_in) (d' := 1) dX11_least_30 (Or.inl ml_X11_124) kb_X11_in (by first | decide | omega) (by simp [Value.category]) ⟨by decide, by decide⟩ ?_
      rw [hM.n1]
      refine mr_in ⟨_, rfl, ?_⟩
      rw [in_L hQ]
      cases hls : lsP K x
      · refine V_if_ne_f (tgt := 38) dX11_least_33 (by decide) (rfl) ?_
        refine V_iconst (v := (-1)) dX11_least_36 (by decide) ?_
        refine V_ireturn dX11_least_37 rfl rfl rfl (by decide) (by decide) ?_
        refine MK.eq ?_ h'
        rw [a_least, hls]; rfl
      · have hcond : (lsP K x && (inR off (2 ^ K 0 0) && inR cut (2 ^ K 0 1))) = true := by rw [hv, hv2, hls]; rfl
        have hcl : cl cut < 2 ^ 31 := pw31 (by omega) q3
        -- from the casting on
        have t53 : ¬ (¬ x < 0 ∧ (cl cut).testBit (cl x) = true) → V E d M_X11_least (MK t len K D D1 D2 kp tl (some (.int (a_least K D off cut x))) I J (RR co dr cc a1 a2)) 53 [some (.ref 70), some (.int off), some (.int cut), some (.int x), none, none, none] [] NC 0 0 I J (RR co dr cc a1 a2) := by
          intro hnc
          rw [a_least, hcond, if_pos rfl, if_neg hnc]
          refine V_aload_n dX11_least_53 rfl rfl (V_iload_n dX11_least_54 rfl rfl (V_iload_n dX11_least_55 rfl rfl (V_iconst (v := 1) dX11_least_56 (by decide) ?_)))
          refine V_cV3i (M' := M_X11_cast) (d' := 4) dX11_least_57 (Or.inl ml_X11_235) kb_X11_cast (by first | assumption | exact ⟨by decide, rfl⟩) (by first | decide | omega) (by simp [Value.category]) ⟨by decide, by decide⟩ ?_
          rw [show [Value.ref 70, Value.int off, Value.int cut, Value.int 1] = [Value.ref 70, Value.int (nI (cl off)), Value.int (nI (cl cut)), Value.int (b2i true)] by rw [← q2, ← q4]; rfl]
          refine mr_cast (all := true) hB hM hR hD.1 hDB (pw31 hP q1) hcl (fun z => by cases z) (fun _ I1 J1 g1 g2 g3 g4 => ⟨_, rfl, ?_⟩)
          rw [lea_met hB (cl off) (cl cut) D.1 D.2.1]
          have hM1 := g1.MB hB hM
          have hD1 := g1.MDX hD.1
          by_cases hlt : (lea K (cl off) (cl cut) D.1 D.2.1).1 < 1000000
          · rw [decide_eq_true hlt, if_pos hlt]
            obtain ⟨hmem, -⟩ := lea_ok hlt
            have hz : ∀ j, j < K 0 1 → ((lea K (cl off) (cl cut) D.1 D.2.1).2.getD j 0 = 0 ↔ (cl cut).testBit j = true) := fun j hj => by
              have := CL_cutz _ _ _ _ hmem j hj
              rwa [Nat.zero_add] at this
            have hle := lea_le hB hlt
            have hle2 : ∀ j, (lea K (cl off) (cl cut) D.1 D.2.1).2.getD j 0 ≤ K 0 0 := fun j => getD_mem_le (CL_le _ _ _ _ hmem)
            rcases g4 with ⟨z, _⟩ | ⟨_, y31, y96⟩
            · exact absurd hlt (by omega)
            generalize hB9 : (lea K (cl off) (cl cut) D.1 D.2.1).2 = bs at *
            generalize hT9 : (lea K (cl off) (cl cut) D.1 D.2.1).1 = tr at *
            have fin : ∀ v, MK t len K D D1 D2 kp tl (some (.int v)) I J (RR co dr cc a1 a2) (some (.int v)) NC I1 J1 (RR co dr cc a1 a2) := fun v => ⟨rfl, rfl, rfl, g1.MS h', g1.lo, fun x y a => g2 x y (by omega)⟩
            by_cases hx : x < 0
            · refine V_if_ne_t (tgt := 66) dX11_least_60 (by decide) (by decide) ?_
              refine V_iload_n dX11_least_66 rfl rfl ?_
              refine V_if_lt_t (tgt := 77) dX11_least_67 (by decide) (hx) ?_
              refine V_iconst (v := 0) dX11_least_77 (by decide) (V_istore_4 dX11_least_78 (by decide) rfl (V_iconst (v := 0) dX11_least_80 (by decide) (V_istore_5 dX11_least_81 (by decide) rfl (V_iconst (v := 0) dX11_least_83 (by decide) (V_istore_6 dX11_least_84 (by decide) rfl ?_)))))
              have hx3 : ¬ x < -3 := by
                unfold lsP at hls
                rw [if_pos hx] at hls
                have := of_decide_eq_true hls
                intro z
                have z1 := (fa_lt _ _).mp z
                have z2 := (fa_le _ _).mp this
                omega
              have key : ∀ k, k ≤ K 0 1 → V E d M_X11_least (MK t len K D D1 D2 kp tl (some (.int (if x = -1 then nI tr else if x = -2 then nI (fb_ct (fun i => decide (bs.getD i 0 ≠ 0 ∧ bs.getD i 0 ≠ K 7 i)) (K 0 1)) else if x = -3 then nI (fb_sm (fun i => if bs.getD i 0 = 0 then 0 else K 6 i - kpt K D.1 D.2.1 (bs.getD i 0 - 1) i) (K 0 1)) else owv (bs.getD (cl x) 0)))) I J (RR co dr cc a1 a2)) 86 [some (.ref 70), some (.int off), some (.int cut), some (.int x), some (.int (nI (fb_ct (fun i => decide (bs.getD i 0 ≠ 0 ∧ bs.getD i 0 ≠ K 7 i)) k))), some (.int (nI (fb_sm (fun i => if bs.getD i 0 = 0 then 0 else K 6 i - kpt K D.1 D.2.1 (bs.getD i 0 - 1) i) k))), some (.int (nI k))] [] NC 0 0 I1 J1 (RR co dr cc a1 a2) := by
                refine loop_up (K 0 1) ?_ ?_
                · rcases neg3 hx hx3 with rfl | rfl | rfl
                  · refine V_iload dX11_least_86 rfl (V_aload_n dX11_least_88 rfl rfl ?_)
                    refine V_getR dX11_least_89 fl_X11_22 (by first | assumption | exact ⟨by decide, rfl⟩) (by first | assumption | rfl) ?_
                    refine V_iconst (v := 0) dX11_least_92 (by decide) ?_
                    refine V_ial dX11_least_93 (by first | assumption | exact ⟨by decide, rfl⟩) (show ix _ 0 _ from ⟨rfl, by decide⟩) ?_
                    refine V_icmp_ge_t (tgt := 165) dX11_least_94 (by decide) (by rw [hM1.n1]; exact nI_le (by omega) (by omega)) ?_
                    refine V_iload_n dX11_least_165 rfl rfl (V_iconst (v := (-1)) dX11_least_166 (by decide) ?_)
                    refine V_icmp_ne_f (tgt := 177) dX11_least_167 (by decide) (rfl) ?_
                    refine V_aload_n dX11_least_170 rfl rfl ?_
                    refine V_getI dX11_least_171 fl_X11_216 (by first | assumption | exact ⟨by decide, rfl⟩) ?_
                    refine V_goto (tgt := 190) dX11_least_174 (by decide) ?_
                    refine V_ireturn dX11_least_190 rfl rfl rfl (by decide) (by decide) ?_
                    rw [y31]; exact fin _
                  · refine V_iload dX11_least_86 rfl (V_aload_n dX11_least_88 rfl rfl ?_)
                    refine V_getR dX11_least_89 fl_X11_22 (by first | assumption | exact ⟨by decide, rfl⟩) (by first | assumption | rfl) ?_
                    refine V_iconst (v := 0) dX11_least_92 (by decide) ?_
                    refine V_ial dX11_least_93 (by first | assumption | exact ⟨by decide, rfl⟩) (show ix _ 0 _ from ⟨rfl, by decide⟩) ?_
                    refine V_icmp_ge_t (tgt := 165) dX11_least_94 (by decide) (by rw [hM1.n1]; exact nI_le (by omega) (by omega)) ?_
                    refine V_iload_n dX11_least_165 rfl rfl (V_iconst (v := (-1)) dX11_least_166 (by decide) ?_)
                    refine V_icmp_ne_t (tgt := 177) dX11_least_167 (by decide) (by decide) ?_
                    refine V_iload_n dX11_least_177 rfl rfl (V_bipush (v := (-2)) dX11_least_178 (by decide) ?_)
                    refine V_icmp_ne_f (tgt := 188) dX11_least_180 (by decide) (rfl) ?_
                    refine V_iload dX11_least_183 rfl (V_goto (tgt := 190) dX11_least_185 (by decide) ?_)
                    refine V_ireturn dX11_least_190 rfl rfl rfl (by decide) (by decide) ?_
                    exact fin _
                  · refine V_iload dX11_least_86 rfl (V_aload_n dX11_least_88 rfl rfl ?_)
                    refine V_getR dX11_least_89 fl_X11_22 (by first | assumption | exact ⟨by decide, rfl⟩) (by first | assumption | rfl) ?_
                    refine V_iconst (v := 0) dX11_least_92 (by decide) ?_
                    refine V_ial dX11_least_93 (by first | assumption | exact ⟨by decide, rfl⟩) (show ix _ 0 _ from ⟨rfl, by decide⟩) ?_
                    refine V_icmp_ge_t (tgt := 165) dX11_least_94 (by decide) (by rw [hM1.n1]; exact nI_le (by omega) (by omega)) ?_
                    refine V_iload_n dX11_least_165 rfl rfl (V_iconst (v := (-1)) dX11_least_166 (by decide) ?_)
                    refine V_icmp_ne_t (tgt := 177) dX11_least_167 (by decide) (by decide) ?_
                    refine V_iload_n dX11_least_177 rfl rfl (V_bipush (v := (-2)) dX11_least_178 (by decide) ?_)
                    refine V_icmp_ne_t (tgt := 188) dX11_least_180 (by decide) (by decide) ?_
                    refine V_iload dX11_least_188 rfl ?_
                    refine V_ireturn dX11_least_190 rfl rfl rfl (by decide) (by decide) ?_
                    exact fin _
                · intro k hk ih
                  rw [fb_ct_succ, fb_sm_succ] at ih
                  have hlk := hle k
                  have hlk2 := hle2 k
                  have ho := hB.2.2.2.2.1 k
                  refine V_iload dX11_least_86 rfl (V_aload_n dX11_least_88 rfl rfl ?_)
                  refine V_getR dX11_least_89 fl_X11_22 (by first | assumption | exact ⟨by decide, rfl⟩) (by first | assumption | rfl) ?_
                  refine V_iconst (v := 0) dX11_least_92 (by decide) ?_
                  refine V_ial dX11_least_93 (by first | assumption | exact ⟨by decide, rfl⟩) (show ix _ 0 _ from ⟨rfl, by decide⟩) ?_
                  refine V_icmp_ge_f (tgt := 165) dX11_least_94 (by decide) (by rw [hM1.n1]; exact nI_ge hk (by omega)) ?_
                  refine V_iload_n dX11_least_97 rfl rfl (V_iload dX11_least_98 rfl ?_)
                  refine V_cS2i (M' := M_X11_has) (d' := 1) dX11_least_100 (Or.inl ml_X11_183) kb_X11_has (by first | decide | omega) (by simp [Value.category]) ⟨by decide, by decide⟩ ?_
                  rw [show [Value.int cut, Value.int (nI k)] = [Value.int (nI (cl cut)), Value.int (nI k)] by rw [← q4]]
                  refine sp_mhas hcl (by omega) ⟨_, rfl, ?_⟩
                  cases hc : (cl cut).testBit k
                  · have hne : ¬ bs.getD k 0 = 0 := fun z => by rw [(hz k hk).mp z] at hc; cases hc
                    rw [if_neg hne] at ih
                    have eo : ∀ v : Int32, v = 0 ∧ bs.getD k 0 = K 7 k ∨ v = 1 ∧ bs.getD k 0 ≠ K 7 k → nI (fb_ct (fun i => decide (bs.getD i 0 ≠ 0 ∧ bs.getD i 0 ≠ K 7 i)) k) + v = nI (fb_ct (fun i => decide (bs.getD i 0 ≠ 0 ∧ bs.getD i 0 ≠ K 7 i)) k + (if decide (bs.getD k 0 ≠ 0 ∧ bs.getD k 0 ≠ K 7 k) = true then 1 else 0)) := by
                      intro v hv9
                      rcases hv9 with ⟨rfl, e⟩ | ⟨rfl, e⟩
                      · rw [if_neg (fun z => (of_decide_eq_true z).2 e), Int32.add_zero, Nat.add_zero]
                      · rw [if_pos (decide_eq_true ⟨hne, e⟩), nI_1]
                    have t130 : ∀ v : Int32, v = 0 ∧ bs.getD k 0 = K 7 k ∨ v = 1 ∧ bs.getD k 0 ≠ K 7 k → V E d M_X11_least (MK t len K D D1 D2 kp tl (some (.int (if x = -1 then nI tr else if x = -2 then nI (fb_ct (fun i => decide (bs.getD i 0 ≠ 0 ∧ bs.getD i 0 ≠ K 7 i)) (K 0 1)) else if x = -3 then nI (fb_sm (fun i => if bs.getD i 0 = 0 then 0 else K 6 i - kpt K D.1 D.2.1 (bs.getD i 0 - 1) i) (K 0 1)) else owv (bs.getD (cl x) 0)))) I J (RR co dr cc a1 a2)) 130 [some (.ref 70), some (.int off), some (.int cut), some (.int x), some (.int (nI (fb_ct (fun i => decide (bs.getD i 0 ≠ 0 ∧ bs.getD i 0 ≠ K 7 i)) k))), some (.int (nI (fb_sm (fun i => if bs.getD i 0 = 0 then 0 else K 6 i - kpt K D.1 D.2.1 (bs.getD i 0 - 1) i) k))), some (.int (nI k))] [.int v, .int (nI (fb_ct (fun i => decide (bs.getD i 0 ≠ 0 ∧ bs.getD i 0 ≠ K 7 i)) k))] NC 0 0 I1 J1 (RR co dr cc a1 a2) := by
                      intro v hv9
                      refine V_iadd dX11_least_130 (V_istore_4 dX11_least_131 (by decide) rfl (V_iload dX11_least_133 rfl (V_aload_n dX11_least_135 rfl rfl ?_)))
                      refine V_getR dX11_least_136 fl_X11_31 (by first | assumption | exact ⟨by decide, rfl⟩) (by first | assumption | rfl) ?_
                      refine V_iload dX11_least_139 rfl ?_
                      refine V_ial dX11_least_141 (by first | assumption | exact ⟨by decide, rfl⟩) (show ix _ k 16 from ⟨rfl, by omega⟩) ?_
                      refine V_aload_n dX11_least_142 rfl rfl (V_aload_n dX11_least_143 rfl rfl ?_)
                      refine V_getR dX11_least_144 fl_X11_85 (by first | assumption | exact ⟨by decide, rfl⟩) (by first | assumption | rfl) ?_
                      refine V_iload dX11_least_147 rfl ?_
                      refine V_ial dX11_least_149 (by first | assumption | exact ⟨by decide, rfl⟩) (show ix _ k 8 from ⟨rfl, by omega⟩) ?_
                      refine V_iload dX11_least_150 rfl ?_
                      refine V_cV2i (M' := M_X11_kept) (d' := 1) dX11_least_152 (Or.inl ml_X11_205) kb_X11_kept (by first | assumption | exact ⟨by decide, rfl⟩) (by first | decide | omega) (by simp [Value.category]) ⟨by decide, by decide⟩ ?_
                      rw [eo v hv9, y96 k hk, owv, if_neg hne, hM1.lin hk]
                      refine mr_kept hB hM1 hD1 hDB (by omega) hk ⟨_, rfl, ?_⟩
                      refine V_isub dX11_least_155 (V_iadd dX11_least_156 (V_istore_5 dX11_least_157 (by decide) rfl (V_iinc_6 (w := 1) dX11_least_159 (by decide) (by decide) rfl (V_goto (tgt := 86) dX11_least_162 (by decide) ?_))))
                      rw [pk_sub (kpt_le _ _ _ _ _), nI_add, nI_1]
                      exact ih
                    by_cases he : bs.getD k 0 = K 7 k
                    · refine V_if_ne_f (tgt := 159) dX11_least_103 (by decide) (rfl) ?_
                      refine V_iload dX11_least_106 rfl (V_aload_n dX11_least_108 rfl rfl ?_)
                      refine V_getR dX11_least_109 fl_X11_37 (by first | assumption | exact ⟨by decide, rfl⟩) (by first | assumption | rfl) ?_
                      refine V_iload dX11_least_112 rfl ?_
                      refine V_ial dX11_least_114 (by first | assumption | exact ⟨by decide, rfl⟩) (show ix _ k 16 from ⟨rfl, by omega⟩) ?_
                      refine V_aload_n dX11_least_115 rfl rfl ?_
                      refine V_getR dX11_least_116 fl_X11_85 (by first | assumption | exact ⟨by decide, rfl⟩) (by first | assumption | rfl) ?_
                      refine V_iload dX11_least_119 rfl ?_
                      refine V_ial dX11_least_121 (by first | assumption | exact ⟨by decide, rfl⟩) (show ix _ k 8 from ⟨rfl, by omega⟩) ?_
                      refine V_icmp_ne_f (tgt := 129) dX11_least_122 (by decide) (by rw [hM1.own (by omega), y96 k hk, he]) ?_
                      refine V_iconst (v := 0) dX11_least_125 (by decide) (V_goto (tgt := 130) dX11_least_126 (by decide) ?_)
                      exact t130 0 (Or.inl ⟨rfl, he⟩)
                    · refine V_if_ne_f (tgt := 159) dX11_least_103 (by decide) (rfl) ?_
                      refine V_iload dX11_least_106 rfl (V_aload_n dX11_least_108 rfl rfl ?_)
                      refine V_getR dX11_least_109 fl_X11_37 (by first | assumption | exact ⟨by decide, rfl⟩) (by first | assumption | rfl) ?_
                      refine V_iload dX11_least_112 rfl ?_
                      refine V_ial dX11_least_114 (by first | assumption | exact ⟨by decide, rfl⟩) (show ix _ k 16 from ⟨rfl, by omega⟩) ?_
                      refine V_aload_n dX11_least_115 rfl rfl ?_
                      refine V_getR dX11_least_116 fl_X11_85 (by first | assumption | exact ⟨by decide, rfl⟩) (by first | assumption | rfl) ?_
                      refine V_iload dX11_least_119 rfl ?_
                      refine V_ial dX11_least_121 (by first | assumption | exact ⟨by decide, rfl⟩) (show ix _ k 8 from ⟨rfl, by omega⟩) ?_
                      refine V_icmp_ne_t (tgt := 129) dX11_least_122 (by decide) (by rw [hM1.own (by omega), y96 k hk]; exact fun z => he ((owv_inj (by omega) (by omega)).mp z).symm) ?_
                      refine V_iconst (v := 1) dX11_least_129 (by decide) ?_
                      exact t130 1 (Or.inr ⟨rfl, he⟩)
                  · have he := (hz k hk).mpr hc
                    rw [if_pos he, Nat.add_zero, if_neg (show ¬ decide (bs.getD k 0 ≠ 0 ∧ bs.getD k 0 ≠ K 7 k) = true from fun z => (of_decide_eq_true z).1 he), Nat.add_zero] at ih
                    refine V_if_ne_t (tgt := 159) dX11_least_103 (by decide) (by decide) ?_
                    refine V_iinc_6 (w := 1) dX11_least_159 (by decide) (by decide) rfl (V_goto (tgt := 86) dX11_least_162 (by decide) ?_)
                    rw [nI_1]
                    exact ih
              exact key 0 (Nat.zero_le _)
            · have hls2 : inR x (K 0 1) = true := by unfold lsP at hls; rwa [if_neg hx] at hls
              obtain ⟨q5, q6⟩ := inR_cl hls2 (by omega)
              have n1 : ¬ x = -1 := fun z => hx (by rw [z]; decide)
              have n2 : ¬ x = -2 := fun z => hx (by rw [z]; decide)
              have n3 : ¬ x = -3 := fun z => hx (by rw [z]; decide)
              refine V_if_ne_t (tgt := 66) dX11_least_60 (by decide) (by decide) ?_
              refine V_iload_n dX11_least_66 rfl rfl ?_
              refine V_if_lt_f (tgt := 77) dX11_least_67 (by decide) (hx) ?_
              refine V_aload_n dX11_least_70 rfl rfl ?_
              refine V_getR dX11_least_71 fl_X11_85 (by first | assumption | exact ⟨by decide, rfl⟩) (by first | assumption | rfl) ?_
              refine V_iload_n dX11_least_74 rfl rfl ?_
              refine V_ial dX11_least_75 (by first | assumption | exact ⟨by decide, rfl⟩) (show ix _ (cl x) 8 from ⟨q6, by omega⟩) ?_
              refine V_ireturn dX11_least_76 rfl rfl rfl (by decide) (by decide) ?_
              rw [if_neg n1, if_neg n2, if_neg n3, y96 _ q5]
              exact fin _
          · rw [decide_eq_false hlt, if_neg hlt]
            refine V_if_ne_f (tgt := 66) dX11_least_60 (by decide) (rfl) ?_
            refine V_bipush (v := (-4)) dX11_least_63 (by decide) ?_
            refine V_ireturn dX11_least_65 rfl rfl rfl (by decide) (by decide) ?_
            exact ⟨rfl, rfl, rfl, g1.MS h', g1.lo, fun x y a => g2 x y (by omega)⟩
        by_cases hx : x < 0
        · refine V_if_ne_t (tgt := 38) dX11_least_33 (by decide) (by decide) ?_
          refine V_iload_n dX11_least_38 rfl rfl ?_
          refine V_if_lt_t (tgt := 53) dX11_least_39 (by decide) (hx) ?_
          exact t53 (fun z => z.1 hx)
        · have hls2 : inR x (K 0 1) = true := by unfold lsP at hls; rwa [if_neg hx] at hls
          obtain ⟨q5, q6⟩ := inR_cl hls2 (by omega)
          refine V_if_ne_t (tgt := 38) dX11_least_33 (by decide) (by decide) ?_
          refine V_iload_n dX11_least_38 rfl rfl ?_
          refine V_if_lt_f (tgt := 53) dX11_least_39 (by decide) (hx) ?_
          refine V_iload_n dX11_least_42 rfl rfl (V_iload_n dX11_least_43 rfl rfl ?_)
          refine V_cS2i (M' := M_X11_has) (d' := 1) dX11_least_44 (Or.inl ml_X11_183) kb_X11_has (by first | decide | omega) (by simp [Value.category]) ⟨by decide, by decide⟩ ?_
          rw [show [Value.int cut, Value.int x] = [Value.int (nI (cl cut)), Value.int (nI (cl x))] by rw [← q4, ← q6]]
          refine sp_mhas hcl (by omega) ⟨_, rfl, ?_⟩
          cases hc : (cl cut).testBit (cl x)
          · refine V_if_eq_t (tgt := 53) dX11_least_47 (by decide) (rfl) ?_
            rw [← q4, ← q6]
            exact t53 (fun z => by rw [hc] at z; cases z.2)
          · refine V_if_eq_f (tgt := 53) dX11_least_47 (by decide) (by decide) ?_
            refine V_bipush (v := (-2)) dX11_least_50 (by decide) ?_
            refine V_ireturn dX11_least_52 rfl rfl rfl (by decide) (by decide) ?_
            refine MK.eq ?_ h'
            rw [a_least, hcond, if_pos rfl, if_pos ⟨hx, hc⟩]
end
