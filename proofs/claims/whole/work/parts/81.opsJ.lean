/-! Calls of the class: cold -/
def cdW (K : KT) (x : Int32) : Bool := inR x (K 0 0) || decide (10 ≤ x.toInt ∧ x.toInt ≤ 12)
noncomputable def a_cold (K : KT) (had dd x : Int32) : Int32 :=
  if cdW K x && (inR had (2 ^ K 0 0) && inR dd 15) then
    (if x = 10 then nI (fb_sm (metS K (cold K (cl had) (cl dd))) (2 ^ K 0 0))
    else if x = 11 then nI (lik (cold K (cl had) (cl dd)) (2 ^ K 0 0))
    else if x = 12 then nI (cold K (cl had) (cl dd) (lik (cold K (cl had) (cl dd)) (2 ^ K 0 0)))
    else nI (fb_sm (illS K (cold K (cl had) (cl dd)) (cl x)) (2 ^ K 0 0)))
  else -1
section
variable {E : En} {I I' : TI} {J J' : TJ} {R : TR} {t : Nat → Nat} {len : Nat} {K : KT} {D D1 D2 : Di} {kp : Nat} {tl : Nat → Int32} {co dr : Nat} {cc a1 a2 : Option Nat}
theorem op_cold {d : Nat} (hd : 15 ≤ d) (hB : KB K) (h : CS t len K D D1 D2 kp tl I J R) {had dd x : Int32} : Cal E d M_X10_cold [.ref 0, .int had, .int dd, .int x] NC I J R (OK t len K D D1 D2 kp tl (some (.int (a_cold K had dd x))) I J) := by
  have h' := h
  obtain ⟨co, dr, cc, a1, a2, hw, rfl, hX, hS, hT, hD, hC⟩ := h
  have hco := hw.co
  have hP := hB.1.1
  have hpw : 2 ^ K 0 0 ≤ 1024 := Nat.pow_le_pow_right (n := 2) (by decide) hP
  have hpos : 0 < 2 ^ K 0 0 := Nat.one_le_two_pow
  have hrc : RR co dr cc a1 a2 0 3 = some co := rfl
  have e0 : (0 : Int32).toInt = 0 := by decide
  have e10 : (10 : Int32).toInt = 10 := by decide
  have e11 : (11 : Int32).toInt = 11 := by decide
  have e12 : (12 : Int32).toInt = 12 := by decide
  have e14 : (14 : Int32).toInt = 14 := by decide
  obtain ⟨_, _, _, _, _, _, _, _, _, _, _, _, _, _, _, _, _, _, _, _, _, _, _⟩ := f_co (co := co) (dr := dr) (cc := cc) (a1 := a1) (a2 := a2) (hco)
  have rest : ∀ b : Bool, cdW K x = b → V E d M_X10_cold (OK t len K D D1 D2 kp tl (some (.int (a_cold K had dd x))) I J) 38 [some (.ref 0), some (.int had), some (.int dd), some (.int x), none] [.int (b2i b)] NC 0 0 I J (RR co dr cc a1 a2) := by
    intro b hb
    cases b
    · refine V_istore_4 dX10_cold_38 (by decide) rfl (V_iload dX10_cold_40 rfl ?_)
      refine V_if_eq_t (tgt := 66) dX10_cold_42 (by decide) (rfl) ?_
      refine V_iconst (v := (-1)) dX10_cold_66 (by decide) ?_
      refine V_ireturn dX10_cold_67 rfl rfl rfl (by decide) (by decide) ?_
      rw [a_cold, hb]; exact OK.same h'
    · refine V_istore_4 dX10_cold_38 (by decide) rfl (V_iload dX10_cold_40 rfl ?_)
      refine V_if_eq_f (tgt := 66) dX10_cold_42 (by decide) (by decide) ?_
      refine V_aload_n dX10_cold_45 rfl rfl ?_
      refine V_getR dX10_cold_46 fl_X10_23 (by first | assumption | exact ⟨by decide, rfl⟩) (by first | assumption | rfl) ?_
      refine V_iload_n dX10_cold_49 rfl rfl ?_
      refine V_cV1i (M' := M_X3_hasPlayers) (d' := 1) dX10_cold_50 (Or.inl ml_X10_184) kb_X3_hasPlayers (by first | assumption | exact ⟨by decide, rfl⟩) (by first | decide | omega) (by simp [Value.category]) ⟨by decide, by decide⟩ ?_
      refine sp_hasPlayers hco hX.1.1 hP ⟨_, rfl, ?_⟩
      cases hv : inR had (2 ^ K 0 0)
      · refine V_if_eq_t (tgt := 66) dX10_cold_53 (by decide) (rfl) ?_
        refine V_iconst (v := (-1)) dX10_cold_66 (by decide) ?_
        refine V_ireturn dX10_cold_67 rfl rfl rfl (by decide) (by decide) ?_
        rw [a_cold, hv, Bool.false_and, Bool.and_false]; exact OK.same h'
      · by_cases d0 : dd < 0
        · refine V_if_eq_f (tgt := 66) dX10_cold_53 (by decide) (by decide) ?_
          refine V_iload_n dX10_cold_56 rfl rfl ?_
          refine V_if_lt_t (tgt := 66) dX10_cold_57 (by decide) (d0) ?_
          refine V_iconst (v := (-1)) dX10_cold_66 (by decide) ?_
          refine V_ireturn dX10_cold_67 rfl rfl rfl (by decide) (by decide) ?_
          rw [a_cold, inR_lt d0, Bool.and_false, Bool.and_false]; exact OK.same h'
        · by_cases d1 : dd ≤ 14
          · have hdd : inR dd 15 = true := decide_eq_true (by
              have q1 := (not_congr Int32.lt_iff_toInt_lt).mp d0
              have q2 := Int32.le_iff_toInt_le.mp d1
              omega)
            obtain ⟨q1, q2⟩ := inR_cl hv (by omega)
            obtain ⟨q3, q4⟩ := inR_cl hdd (by omega)
            rw [a_cold, hb, hv, hdd]
            generalize hkk : cl had = kk at *
            generalize hww : cl dd = ww at *
            subst q2 q4
            refine V_if_eq_f (tgt := 66) dX10_cold_53 (by decide) (by decide) ?_
            refine V_iload_n dX10_cold_56 rfl rfl ?_
            refine V_if_lt_f (tgt := 66) dX10_cold_57 (by decide) (d0) ?_
            refine V_iload_n dX10_cold_60 rfl rfl (V_bipush (v := 14) dX10_cold_61 (by decide) ?_)
            refine V_icmp_le_t (tgt := 68) dX10_cold_63 (by decide) (d1) ?_
            refine V_aload_n dX10_cold_68 rfl rfl ?_
            refine V_getR dX10_cold_69 fl_X10_71 (by first | assumption | exact ⟨by decide, rfl⟩) (by first | assumption | rfl) ?_
            refine V_aload_n dX10_cold_72 rfl rfl ?_
            refine V_getR dX10_cold_73 fl_X10_23 (by first | assumption | exact ⟨by decide, rfl⟩) (by first | assumption | rfl) ?_
            refine V_iload_n dX10_cold_76 rfl rfl (V_iload_n dX10_cold_77 rfl rfl ?_)
            refine V_cV3v (M' := M_X7_goOn) (d' := 5) dX10_cold_78 (Or.inl ml_X10_252) kb_X7_goOn (by first | assumption | exact ⟨by decide, rfl⟩) (by first | decide | omega) (by simp [Value.category]) ⟨by decide, by decide⟩ ?_
            refine sp_goOn (by omega) hco hB hX q1 (by omega) hC.2.2.2 (fun I1 g1 g2 g3 => ⟨rfl, ?_⟩)
            have hX1 : CoX I1 co K := hX.of (fun x y a b => g1 x y (by omega))
            have hS1 : SX I1 co K := hS.of (fun b => ⟨g1 _ _ (by omega), g1 _ _ (by omega)⟩)
            have hN1 : ANS I1 K := hC.1.of (fun b => g1 _ _ (by omega))
            have hTl : ∀ s, s < 2 ^ K 0 0 → cold K kk ww s ≤ 1000000 := fun s hs => cold_le K q1 ww hs
            have hcs : CS t len K D D1 D2 kp tl I1 J (RR co dr cc a1 a2) := CS.put hw hX hS hT hD (fun x y hx => g1 x y (by omega)) ⟨hN1, hC.2.1.of (g1 _ _ (by omega)) (fun _ => rfl), hC.2.2.1.of (g1 _ _ (by omega)) (g1 _ _ (by omega)), g2⟩
            have hok : ∀ v, OK t len K D D1 D2 kp tl v I J v NC I1 J (RR co dr cc a1 a2) := fun v => ⟨rfl, rfl, hcs, fun x y hx => g1 x y (by omega), fun _ _ _ => rfl⟩
            refine V_iload_n dX10_cold_81 rfl rfl ?_
            by_cases x10 : x = 10
            · subst x10
              refine V_tableIn (off := 26) (tgt := 108) dX10_cold_82 (by decide) (by decide) (by decide) (by decide) ?_
              refine V_aload_n dX10_cold_108 rfl rfl ?_
              refine V_getR dX10_cold_109 fl_X10_71 (by first | assumption | exact ⟨by decide, rfl⟩) (by first | assumption | rfl) ?_
              refine V_aload_n dX10_cold_112 rfl rfl ?_
              refine V_getR dX10_cold_113 fl_X10_23 (by first | assumption | exact ⟨by decide, rfl⟩) (by first | assumption | rfl) ?_
              refine V_aload_n dX10_cold_116 rfl rfl ?_
              refine V_getR dX10_cold_117 fl_X10_57 (by first | assumption | exact ⟨by decide, rfl⟩) (by first | assumption | rfl) ?_
              refine V_cV2i (M' := M_X7_timesMet) (d' := 14) dX10_cold_120 (Or.inl ml_X10_256) kb_X7_timesMet (by first | assumption | exact ⟨by decide, rfl⟩) (by first | decide | omega) (by simp [Value.category]) ⟨by decide, by decide⟩ ?_
              refine sp_timesMet (by omega) hco hB hX1 hS1 hN1 g3 hTl (fun I2 b1 m1 m2 => ⟨_, rfl, ?_⟩)
              refine V_ireturn dX10_cold_123 rfl rfl rfl (by decide) (by decide) ?_
              rw [if_pos (by rfl), if_pos rfl]
              exact ⟨rfl, rfl, CS.put hw hX hS hT hD (fun x y hx => by rw [m1 x y (by omega) (by omega) (by omega)]; exact g1 x y (by omega)) ⟨m2, hC.2.1.of (by rw [m1 _ _ (by omega) (by omega) (by omega)]; exact g1 _ _ (by omega)) (fun _ => rfl), hC.2.2.1.of (by rw [m1 _ _ (by omega) (by omega) (by omega)]; exact g1 _ _ (by omega)) (by rw [m1 _ _ (by omega) (by omega) (by omega)]; exact g1 _ _ (by omega)), g2.of (fun y => m1 _ _ (by omega) (by omega) (by omega)) (fun y => m1 _ _ (by omega) (by omega) (by omega))⟩, fun x y hx => by rw [m1 x y (by omega) (by omega) (by omega)]; exact g1 x y (by omega), fun _ _ _ => rfl⟩
            by_cases x11 : x = 11
            · subst x11
              refine V_tableIn (off := 42) (tgt := 124) dX10_cold_82 (by decide) (by decide) (by decide) (by decide) ?_
              refine V_aload_n dX10_cold_124 rfl rfl ?_
              refine V_getR dX10_cold_125 fl_X10_71 (by first | assumption | exact ⟨by decide, rfl⟩) (by first | assumption | rfl) ?_
              refine V_aload_n dX10_cold_128 rfl rfl ?_
              refine V_getR dX10_cold_129 fl_X10_23 (by first | assumption | exact ⟨by decide, rfl⟩) (by first | assumption | rfl) ?_
              refine V_cV1i (M' := M_X7_likeliest) (d' := 1) dX10_cold_132 (Or.inl ml_X10_260) kb_X7_likeliest (by first | assumption | exact ⟨by decide, rfl⟩) (by first | decide | omega) (by simp [Value.category]) ⟨by decide, by decide⟩ ?_
              refine sp_likeliest hco hB hX1 g3 hTl ⟨_, rfl, ?_⟩
              refine V_ireturn dX10_cold_135 rfl rfl rfl (by decide) (by decide) ?_
              rw [if_pos (by rfl), if_neg x10, if_pos rfl]; exact hok _
            by_cases x12 : x = 12
            · subst x12
              have hlk := lik_lt' (cold K kk ww) hpos
              refine V_tableIn (off := 54) (tgt := 136) dX10_cold_82 (by decide) (by decide) (by decide) (by decide) ?_
              refine V_aload_n dX10_cold_136 rfl rfl ?_
              refine V_getR dX10_cold_137 fl_X10_71 (by first | assumption | exact ⟨by decide, rfl⟩) (by first | assumption | rfl) ?_
              refine V_getR dX10_cold_140 fl_X10_264 (by first | assumption | exact ⟨by decide, rfl⟩) (by first | assumption | rfl) ?_
              refine V_aload_n dX10_cold_143 rfl rfl ?_
              refine V_getR dX10_cold_144 fl_X10_71 (by first | assumption | exact ⟨by decide, rfl⟩) (by first | assumption | rfl) ?_
              refine V_aload_n dX10_cold_147 rfl rfl ?_
              refine V_getR dX10_cold_148 fl_X10_23 (by first | assumption | exact ⟨by decide, rfl⟩) (by first | assumption | rfl) ?_
              refine V_cV1i (M' := M_X7_likeliest) (d' := 1) dX10_cold_151 (Or.inl ml_X10_260) kb_X7_likeliest (by first | assumption | exact ⟨by decide, rfl⟩) (by first | decide | omega) (by simp [Value.category]) ⟨by decide, by decide⟩ ?_
              refine sp_likeliest hco hB hX1 g3 hTl ⟨_, rfl, ?_⟩
              refine V_ial dX10_cold_154 (by first | assumption | exact ⟨by decide, rfl⟩) (show ix _ (lik (cold K kk ww) (2 ^ K 0 0)) 1024 from ⟨rfl, by omega⟩) ?_
              refine V_ireturn dX10_cold_155 rfl rfl rfl (by decide) (by decide) ?_
              rw [g3 _ hlk, if_pos (by rfl), if_neg x10, if_neg x11, if_pos rfl]; exact hok _
            · have hxr : inR x (K 0 0) = true := by
                unfold cdW at hb
                cases hi : inR x (K 0 0)
                · rw [hi, Bool.false_or] at hb
                  have hq := of_decide_eq_true hb
                  rcases (show x.toInt = 10 ∨ x.toInt = 11 ∨ x.toInt = 12 by omega) with z | z | z
                  · exact absurd (Int32.toInt_inj.mp (by rw [z, e10])) x10
                  · exact absurd (Int32.toInt_inj.mp (by rw [z, e11])) x11
                  · exact absurd (Int32.toInt_inj.mp (by rw [z, e12])) x12
                · rfl
              obtain ⟨p1, p2⟩ := inR_cl hxr (by omega)
              have hti : x.toInt < 10 := by have := (of_decide_eq_true hxr).2; omega
              rw [if_pos (by rfl), if_neg x10, if_neg x11, if_neg x12]
              refine V_tableOut (tgt := 156) dX10_cold_82 (Or.inl (by omega)) (by decide) ?_
              refine V_aload_n dX10_cold_156 rfl rfl ?_
              refine V_getR dX10_cold_157 fl_X10_71 (by first | assumption | exact ⟨by decide, rfl⟩) (by first | assumption | rfl) ?_
              refine V_aload_n dX10_cold_160 rfl rfl ?_
              refine V_getR dX10_cold_161 fl_X10_23 (by first | assumption | exact ⟨by decide, rfl⟩) (by first | assumption | rfl) ?_
              refine V_iload_n dX10_cold_164 rfl rfl ?_
              refine V_cV2i (M' := M_X7_timesIll) (d' := 2) dX10_cold_165 (Or.inl ml_X10_267) kb_X7_timesIll (by first | assumption | exact ⟨by decide, rfl⟩) (by first | decide | omega) (by simp [Value.category]) ⟨by decide, by decide⟩ ?_
              rw [show [Value.ref co, Value.int x] = [Value.ref co, Value.int (nI (cl x))] by rw [← p2]]
              refine sp_timesIll (by omega) hco hB hX1 (by omega) g3 ⟨_, rfl, ?_⟩
              refine V_ireturn dX10_cold_168 rfl rfl rfl (by decide) (by decide) ?_
              exact hok _
          · have hdd : inR dd 15 = false := decide_eq_false (fun z => by have := (not_congr Int32.le_iff_toInt_le).mp d1; omega)
            refine V_if_eq_f (tgt := 66) dX10_cold_53 (by decide) (by decide) ?_
            refine V_iload_n dX10_cold_56 rfl rfl ?_
            refine V_if_lt_f (tgt := 66) dX10_cold_57 (by decide) (d0) ?_
            refine V_iload_n dX10_cold_60 rfl rfl (V_bipush (v := 14) dX10_cold_61 (by decide) ?_)
            refine V_icmp_le_f (tgt := 68) dX10_cold_63 (by decide) (d1) ?_
            refine V_iconst (v := (-1)) dX10_cold_66 (by decide) ?_
            refine V_ireturn dX10_cold_67 rfl rfl rfl (by decide) (by decide) ?_
            rw [a_cold, hdd, Bool.and_false, Bool.and_false]; exact OK.same h'
  refine Cal_of kn_X10_cold rfl (Nat.le_of_ble_eq_true rfl) ?_
  have big : ¬ x < 0 → ¬ x < 10 → inR x (K 0 0) = false := fun a b => decide_eq_false (fun z => by have := (not_congr Int32.lt_iff_toInt_lt).mp b; omega)
  by_cases hx0 : x < 0
  · have hlt : x < 10 := Int32.lt_iff_toInt_lt.mpr (by have := Int32.lt_iff_toInt_lt.mp hx0; omega)
    refine V_iload_n dX10_cold_0 rfl rfl ?_
    refine V_if_lt_t (tgt := 21) dX10_cold_1 (by decide) (hx0) ?_
    refine V_iload_n dX10_cold_21 rfl rfl (V_bipush (v := 10) dX10_cold_22 (by decide) ?_)
    refine V_icmp_lt_t (tgt := 37) dX10_cold_24 (by decide) (hlt) ?_
    refine V_iconst (v := 0) dX10_cold_37 (by decide) ?_
    refine rest false ?_
    unfold cdW
    rw [inR_lt hx0, decide_eq_false (fun z => by have := Int32.lt_iff_toInt_lt.mp hlt; omega)]; rfl
  · by_cases hxt : x < 10
    · have hge : ¬ 10 ≤ x := fun z => by
        have q1 := Int32.le_iff_toInt_le.mp z
        have q2 := Int32.lt_iff_toInt_lt.mp hxt
        omega
      refine V_iload_n dX10_cold_0 rfl rfl ?_
      refine V_if_lt_f (tgt := 21) dX10_cold_1 (by decide) (hx0) ?_
      refine V_iload_n dX10_cold_4 rfl rfl (V_bipush (v := 10) dX10_cold_5 (by decide) ?_)
      refine V_icmp_ge_f (tgt := 21) dX10_cold_7 (by decide) (hge) ?_
      refine V_aload_n dX10_cold_10 rfl rfl ?_
      refine V_getR dX10_cold_11 fl_X10_23 (by first | assumption | exact ⟨by decide, rfl⟩) (by first | assumption | rfl) ?_
      refine V_iload_n dX10_cold_14 rfl rfl ?_
      refine V_cV1i (M' := M_X3_hasPlayer) (d' := 1) dX10_cold_15 (Or.inl ml_X10_131) kb_X3_hasPlayer (by first | assumption | exact ⟨by decide, rfl⟩) (by first | decide | omega) (by simp [Value.category]) ⟨by decide, by decide⟩ ?_
      refine sp_hasPlayer hco hX.1.1 (by omega) ⟨_, rfl, ?_⟩
      refine V_goto (tgt := 38) dX10_cold_18 (by decide) ?_
      refine rest _ ?_
      unfold cdW
      rw [decide_eq_false (fun z => by have := Int32.lt_iff_toInt_lt.mp hxt; omega), Bool.or_false]
    · have hge : 10 ≤ x := Int32.le_iff_toInt_le.mpr (by have := (not_congr Int32.lt_iff_toInt_lt).mp hxt; omega)
      by_cases hx12 : 12 < x
      · refine V_iload_n dX10_cold_0 rfl rfl ?_
        refine V_if_lt_f (tgt := 21) dX10_cold_1 (by decide) (hx0) ?_
        refine V_iload_n dX10_cold_4 rfl rfl (V_bipush (v := 10) dX10_cold_5 (by decide) ?_)
        refine V_icmp_ge_t (tgt := 21) dX10_cold_7 (by decide) (hge) ?_
        refine V_iload_n dX10_cold_21 rfl rfl (V_bipush (v := 10) dX10_cold_22 (by decide) ?_)
        refine V_icmp_lt_f (tgt := 37) dX10_cold_24 (by decide) (hxt) ?_
        refine V_iload_n dX10_cold_27 rfl rfl (V_bipush (v := 12) dX10_cold_28 (by decide) ?_)
        refine V_icmp_gt_t (tgt := 37) dX10_cold_30 (by decide) (hx12) ?_
        refine V_iconst (v := 0) dX10_cold_37 (by decide) ?_
        refine rest false ?_
        unfold cdW
        rw [big hx0 hxt, decide_eq_false (fun z => by have := Int32.lt_iff_toInt_lt.mp hx12; omega)]; rfl
      · refine V_iload_n dX10_cold_0 rfl rfl ?_
        refine V_if_lt_f (tgt := 21) dX10_cold_1 (by decide) (hx0) ?_
        refine V_iload_n dX10_cold_4 rfl rfl (V_bipush (v := 10) dX10_cold_5 (by decide) ?_)
        refine V_icmp_ge_t (tgt := 21) dX10_cold_7 (by decide) (hge) ?_
        refine V_iload_n dX10_cold_21 rfl rfl (V_bipush (v := 10) dX10_cold_22 (by decide) ?_)
        refine V_icmp_lt_f (tgt := 37) dX10_cold_24 (by decide) (hxt) ?_
        refine V_iload_n dX10_cold_27 rfl rfl (V_bipush (v := 12) dX10_cold_28 (by decide) ?_)
        refine V_icmp_gt_f (tgt := 37) dX10_cold_30 (by decide) (hx12) ?_
        refine V_iconst (v := 1) dX10_cold_33 (by decide) (V_goto (tgt := 38) dX10_cold_34 (by decide) ?_)
        refine rest true ?_
        unfold cdW
        rw [big hx0 hxt, decide_eq_true (by
          have q1 := (not_congr Int32.lt_iff_toInt_lt).mp hxt
          have q2 := (not_congr Int32.lt_iff_toInt_lt).mp hx12
          omega)]; rfl
end
