/-! Call of the reference: cold, day by day -/
section
variable {E : En} {I : TI} {J : TJ} {co dr : Nat} {cc a1 a2 : Option Nat} {Post : PT} {K : KT}
def FrK (I I' : TI) : Prop := ∀ x y, x ≠ 101 → x ≠ 102 → x ≠ 103 → I' x y = I x y
theorem mr_layCold (hB : KB K) (hM : MB I K) {h dd : Nat} (hh : h < 2 ^ K 0 0) (hd14 : dd ≤ 14) (Kk : ∀ I', FrK I I' → (∀ s, s < 2 ^ K 0 0 → I' 101 s = nI (cold K h dd s)) → Post none NC I' J (RR co dr cc a1 a2)) : Cal E 4 M_X11_layCold [.ref 70, .int (nI h), .int (nI dd)] NC I J (RR co dr cc a1 a2) Post := by
  have hP := hB.1.1
  have hpw : 2 ^ K 0 0 ≤ 1024 := Nat.pow_le_pow_right (n := 2) (by decide) hP
  have hpos : 1 ≤ 2 ^ K 0 0 := Nat.one_le_two_pow
  refine Cal_of kn_X11_layCold rfl (Nat.le_of_ble_eq_true rfl) ?_
  refine V_iconst (v := 1) dX11_layCold_0 (by decide) (V_aload_n dX11_layCold_1 rfl rfl ?_)
  refine V_getR dX11_layCold_2 fl_X11_13 (by first | assumption | exact ⟨by decide, rfl⟩) (by first | assumption | rfl) ?_
  refine V_iconst (v := 0) dX11_layCold_5 (by decide) ?_
  refine V_ial dX11_layCold_6 (by first | assumption | exact ⟨by decide, rfl⟩) (show ix _ 0 _ from ⟨rfl, by decide⟩) ?_
  refine V_ishl dX11_layCold_7 (V_iconst (v := 1) dX11_layCold_8 (by decide) (V_isub dX11_layCold_9 (V_istore_3 dX11_layCold_10 (by decide) rfl (V_iconst (v := 0) dX11_layCold_11 (by decide) (V_istore_4 dX11_layCold_12 (by decide) rfl ?_)))))
  rw [hM.n0, shl1 (by omega), show (1 : Int32) = nI 1 from rfl, pk_sub hpos]
  have key1 : ∀ k, k ≤ 2 ^ K 0 0 → ∀ I1, FrK I I1 → (∀ s, s < k → I1 101 s = nI (cold K h 0 s)) → V E 4 M_X11_layCold Post 14 [some (.ref 70), some (.int (nI h)), some (.int (nI dd)), some (.int (nI (2 ^ K 0 0 - 1))), some (.int (nI k)), none] [] NC 0 0 I1 J (RR co dr cc a1 a2) := by
    refine loop_up (2 ^ K 0 0) ?_ ?_
    · intro I1 f1 g1
      refine V_iload dX11_layCold_14 rfl (V_iload_n dX11_layCold_16 rfl rfl ?_)
      refine V_icmp_gt_t (tgt := 46) dX11_layCold_17 (by decide) (nI_lt (by omega) (by omega)) ?_
      refine V_iconst (v := 0) dX11_layCold_46 (by decide) (V_istore_4 dX11_layCold_47 (by decide) rfl ?_)
      have days : ∀ k, k ≤ dd → ∀ I2, FrK I I2 → (∀ s, s < 2 ^ K 0 0 → I2 101 s = nI (cold K h k s)) → V E 4 M_X11_layCold Post 49 [some (.ref 70), some (.int (nI h)), some (.int (nI dd)), some (.int (nI (2 ^ K 0 0 - 1))), some (.int (nI k)), none] [] NC 0 0 I2 J (RR co dr cc a1 a2) := by
        refine loop_up dd ?_ ?_
        · intro I2 f2 g2
          refine V_iload dX11_layCold_49 rfl (V_iload_n dX11_layCold_51 rfl rfl ?_)
          refine V_icmp_ge_t (tgt := 145) dX11_layCold_52 (by decide) (nI_le (by omega) (by omega)) ?_
          refine V_return dX11_layCold_145 rfl rfl (by decide) (by decide) ?_
          exact Kk I2 f2 g2
        · intro k hk ih I2 f2 g2
          have hM2 : MB I2 K := hM.all hB (fun x y a b => f2 x y (by omega) (by omega) (by omega))
          refine V_iload dX11_layCold_49 rfl (V_iload_n dX11_layCold_51 rfl rfl ?_)
          refine V_icmp_ge_f (tgt := 145) dX11_layCold_52 (by decide) (nI_ge hk (by omega)) ?_
          refine V_iconst (v := 0) dX11_layCold_55 (by decide) (V_istore_5 dX11_layCold_56 (by decide) rfl ?_)
          have z1 : ∀ j, j ≤ 2 ^ K 0 0 → ∀ I3, (∀ x y, x ≠ 102 → I3 x y = I2 x y) → (∀ s, s < j → I3 102 s = 0) → V E 4 M_X11_layCold Post 58 [some (.ref 70), some (.int (nI h)), some (.int (nI dd)), some (.int (nI (2 ^ K 0 0 - 1))), some (.int (nI k)), some (.int (nI j))] [] NC 0 0 I3 J (RR co dr cc a1 a2) := by
            refine loop_up (2 ^ K 0 0) ?_ ?_
            · intro I3 f3 g3
              refine V_iload dX11_layCold_58 rfl (V_iload_n dX11_layCold_60 rfl rfl ?_)
              refine V_icmp_gt_t (tgt := 78) dX11_layCold_61 (by decide) (nI_lt (by omega) (by omega)) ?_
              refine V_iconst (v := 0) dX11_layCold_78 (by decide) (V_istore_5 dX11_layCold_79 (by decide) rfl ?_)
              have z2 : ∀ j, j ≤ 2 ^ K 0 0 → ∀ I4, (∀ x y, x ≠ 102 → x ≠ 103 → I4 x y = I2 x y) → (∀ t, t < 2 ^ K 0 0 → I4 102 t = nI (fb_sm (fun s => pt K s (cold K h k s) (K 0 0) t) j)) → V E 4 M_X11_layCold Post 81 [some (.ref 70), some (.int (nI h)), some (.int (nI dd)), some (.int (nI (2 ^ K 0 0 - 1))), some (.int (nI k)), some (.int (nI j))] [] NC 0 0 I4 J (RR co dr cc a1 a2) := by
                refine loop_up (2 ^ K 0 0) ?_ ?_
                · intro I4 f4 g4
                  refine V_iload dX11_layCold_81 rfl (V_iload_n dX11_layCold_83 rfl rfl ?_)
                  refine V_icmp_gt_t (tgt := 110) dX11_layCold_84 (by decide) (nI_lt (by omega) (by omega)) ?_
                  refine V_iconst (v := 0) dX11_layCold_110 (by decide) (V_istore_5 dX11_layCold_111 (by decide) rfl ?_)
                  have z3 : ∀ j, j ≤ 2 ^ K 0 0 → ∀ I5, (∀ x y, x ≠ 101 → I5 x y = I4 x y) → (∀ s, s < j → I5 101 s = I4 102 s) → V E 4 M_X11_layCold Post 113 [some (.ref 70), some (.int (nI h)), some (.int (nI dd)), some (.int (nI (2 ^ K 0 0 - 1))), some (.int (nI k)), some (.int (nI j))] [] NC 0 0 I5 J (RR co dr cc a1 a2) := by
                    refine loop_up (2 ^ K 0 0) ?_ ?_
                    · intro I5 f5 g5
                      refine V_iload dX11_layCold_113 rfl (V_iload_n dX11_layCold_115 rfl rfl ?_)
                      refine V_icmp_gt_t (tgt := 139) dX11_layCold_116 (by decide) (nI_lt (by omega) (by omega)) ?_
                      refine V_iinc_4 (w := 1) dX11_layCold_139 (by decide) (by decide) rfl (V_goto (tgt := 49) dX11_layCold_142 (by decide) ?_)
                      rw [nI_1]
                      exact V_forget (ih I5 (fun x y a b c => by rw [f5 x y a, f4 x y b c]; exact f2 x y a b c) (fun s hs => by rw [g5 s hs, g4 s hs]; rfl)) (by simp [lessb])
                    · intro j hj ih3 I5 f5 g5
                      refine V_iload dX11_layCold_113 rfl (V_iload_n dX11_layCold_115 rfl rfl ?_)
                      refine V_icmp_gt_f (tgt := 139) dX11_layCold_116 (by decide) (by rw [lit_lt (by omega) (by omega)]; omega) ?_
                      refine V_aload_n dX11_layCold_119 rfl rfl ?_
                      refine V_getR dX11_layCold_120 fl_X11_100 (by first | assumption | exact ⟨by decide, rfl⟩) (by first | assumption | rfl) ?_
                      refine V_iload dX11_layCold_123 rfl (V_aload_n dX11_layCold_125 rfl rfl ?_)
                      refine V_getR dX11_layCold_126 fl_X11_103 (by first | assumption | exact ⟨by decide, rfl⟩) (by first | assumption | rfl) ?_
                      refine V_iload dX11_layCold_129 rfl ?_
                      refine V_ial dX11_layCold_131 (by first | assumption | exact ⟨by decide, rfl⟩) (show ix _ j 1024 from ⟨rfl, by omega⟩) ?_
                      refine V_ias dX11_layCold_132 (by first | assumption | exact ⟨by decide, rfl⟩) (show ix _ j 1024 from ⟨rfl, by omega⟩) ?_
                      refine V_iinc_5 (w := 1) dX11_layCold_133 (by decide) (by decide) rfl (V_goto (tgt := 113) dX11_layCold_136 (by decide) ?_)
                      rw [nI_1]
                      refine ih3 _ (fun x y a => by rw [u2n (by omega)]; exact f5 x y a) (fun s hs => ?_)
                      by_cases hsj : s = j
                      · rw [hsj, u2e, f5 _ _ (by omega)]
                      · rw [u2n (by omega)]; exact g5 s (by omega)
                  exact z3 0 (Nat.zero_le _) I4 (fun _ _ _ => rfl) (fun s hs => absurd hs (by omega))
                · intro j hj ih2 I4 f4 g4
                  have hcj := cold_le K hh k hj
                  have h101 : I4 101 j = nI (cold K h k j) := by rw [f4 _ _ (by omega) (by omega)]; exact g2 j hj
                  have hM4 : MB I4 K := hM2.all hB (fun x y a b => f4 x y (by omega) (by omega))
                  have hl : ¬ nI (2 ^ K 0 0 - 1) < nI j := by rw [lit_lt (by omega) (by omega)]; omega
                  by_cases hz : cold K h k j = 0
                  · refine V_iload dX11_layCold_81 rfl (V_iload_n dX11_layCold_83 rfl rfl ?_)
                    refine V_icmp_gt_f (tgt := 110) dX11_layCold_84 (by decide) (hl) ?_
                    refine V_aload_n dX11_layCold_87 rfl rfl ?_
                    refine V_getR dX11_layCold_88 fl_X11_100 (by first | assumption | exact ⟨by decide, rfl⟩) (by first | assumption | rfl) ?_
                    refine V_iload dX11_layCold_91 rfl ?_
                    refine V_ial dX11_layCold_93 (by first | assumption | exact ⟨by decide, rfl⟩) (show ix _ j 1024 from ⟨rfl, by omega⟩) ?_
                    refine V_if_le_t (tgt := 104) dX11_layCold_94 (by decide) (by rw [h101, hz]; decide) ?_
                    refine V_iinc_5 (w := 1) dX11_layCold_104 (by decide) (by decide) rfl (V_goto (tgt := 81) dX11_layCold_107 (by decide) ?_)
                    rw [nI_1]
                    refine ih2 I4 f4 (fun t ht => ?_)
                    rw [fb_sm_succ, hz, pt_zero, Nat.add_zero]; exact g4 t ht
                  · refine V_iload dX11_layCold_81 rfl (V_iload_n dX11_layCold_83 rfl rfl ?_)
                    refine V_icmp_gt_f (tgt := 110) dX11_layCold_84 (by decide) (hl) ?_
                    refine V_aload_n dX11_layCold_87 rfl rfl ?_
                    refine V_getR dX11_layCold_88 fl_X11_100 (by first | assumption | exact ⟨by decide, rfl⟩) (by first | assumption | rfl) ?_
                    refine V_iload dX11_layCold_91 rfl ?_
                    refine V_ial dX11_layCold_93 (by first | assumption | exact ⟨by decide, rfl⟩) (show ix _ j 1024 from ⟨rfl, by omega⟩) ?_
                    refine V_if_le_f (tgt := 104) dX11_layCold_94 (by decide) (by rw [h101, show (0 : Int32) = nI 0 from rfl, lit_le (by omega) (by omega)]; omega) ?_
                    refine V_aload_n dX11_layCold_97 rfl rfl (V_iload dX11_layCold_98 rfl (V_iload_n dX11_layCold_100 rfl rfl ?_))
                    refine V_cV2v (M' := M_X11_partState) (d' := 3) dX11_layCold_101 (Or.inl ml_X11_271) kb_X11_partState (by first | assumption | exact ⟨by decide, rfl⟩) (by first | decide | omega) (by simp [Value.category]) ⟨by decide, by decide⟩ ?_
                    refine mr_partState hB hM4 hj hcj h101 g4 (fun I5 f5 g5 => ⟨rfl, ?_⟩)
                    refine V_iinc_5 (w := 1) dX11_layCold_104 (by decide) (by decide) rfl (V_goto (tgt := 81) dX11_layCold_107 (by decide) ?_)
                    rw [nI_1]
                    exact ih2 I5 (fun x y a b => by rw [f5 x y a b]; exact f4 x y a b) (fun t ht => by rw [g5 t ht, fb_sm_succ])
              exact z2 0 (Nat.zero_le _) I3 (fun x y a b => f3 x y a) (fun t ht => g3 t ht)
            · intro j hj ih1 I3 f3 g3
              refine V_iload dX11_layCold_58 rfl (V_iload_n dX11_layCold_60 rfl rfl ?_)
              refine V_icmp_gt_f (tgt := 78) dX11_layCold_61 (by decide) (by rw [lit_lt (by omega) (by omega)]; omega) ?_
              refine V_aload_n dX11_layCold_64 rfl rfl ?_
              refine V_getR dX11_layCold_65 fl_X11_103 (by first | assumption | exact ⟨by decide, rfl⟩) (by first | assumption | rfl) ?_
              refine V_iload dX11_layCold_68 rfl (V_iconst (v := 0) dX11_layCold_70 (by decide) ?_)
              refine V_ias dX11_layCold_71 (by first | assumption | exact ⟨by decide, rfl⟩) (show ix _ j 1024 from ⟨rfl, by omega⟩) ?_
              refine V_iinc_5 (w := 1) dX11_layCold_72 (by decide) (by decide) rfl (V_goto (tgt := 58) dX11_layCold_75 (by decide) ?_)
              rw [nI_1]
              refine ih1 _ (fun x y a => by rw [u2n (by omega)]; exact f3 x y a) (fun s hs => ?_)
              by_cases hsj : s = j
              · rw [hsj, u2e]
              · rw [u2n (by omega)]; exact g3 s (by omega)
          exact z1 0 (Nat.zero_le _) I2 (fun _ _ _ => rfl) (fun s hs => absurd hs (by omega))
      exact days 0 (Nat.zero_le _) I1 f1 g1
    · intro k hk ih I1 f1 g1
      have fin : ∀ v : Int32, v = nI (cold K h 0 k) → V E 4 M_X11_layCold Post 14 [some (.ref 70), some (.int (nI h)), some (.int (nI dd)), some (.int (nI (2 ^ K 0 0 - 1))), some (.int (nI (k + 1))), none] [] NC 0 0 (up2 I1 101 k v) J (RR co dr cc a1 a2) := by
        intro v hv
        refine ih _ (fun x y a b c => by rw [u2n (by omega)]; exact f1 x y a b c) (fun s hs => ?_)
        by_cases hsk : s = k
        · rw [hsk, u2e, hv]
        · rw [u2n (by omega)]; exact g1 s (by omega)
      by_cases hkh : k = h
      · refine V_iload dX11_layCold_14 rfl (V_iload_n dX11_layCold_16 rfl rfl ?_)
        refine V_icmp_gt_f (tgt := 46) dX11_layCold_17 (by decide) (by rw [lit_lt (by omega) (by omega)]; omega) ?_
        refine V_aload_n dX11_layCold_20 rfl rfl ?_
        refine V_getR dX11_layCold_21 fl_X11_100 (by first | assumption | exact ⟨by decide, rfl⟩) (by first | assumption | rfl) ?_
        refine V_iload dX11_layCold_24 rfl (V_iload dX11_layCold_26 rfl (V_iload_n dX11_layCold_28 rfl rfl ?_))
        refine V_icmp_ne_f (tgt := 38) dX11_layCold_29 (by decide) (by rw [hkh]) ?_
        refine V_ldc_w dX11_layCold_32 ct_X11_270 (V_goto (tgt := 39) dX11_layCold_35 (by decide) ?_)
        refine V_ias dX11_layCold_39 (by first | assumption | exact ⟨by decide, rfl⟩) (show ix _ k 1024 from ⟨rfl, by omega⟩) ?_
        refine V_iinc_4 (w := 1) dX11_layCold_40 (by decide) (by decide) rfl (V_goto (tgt := 14) dX11_layCold_43 (by decide) ?_)
        rw [nI_1]
        exact fin _ (by show _ = nI (if k = h then 1000000 else 0); rw [if_pos hkh]; rfl)
      · refine V_iload dX11_layCold_14 rfl (V_iload_n dX11_layCold_16 rfl rfl ?_)
        refine V_icmp_gt_f (tgt := 46) dX11_layCold_17 (by decide) (by rw [lit_lt (by omega) (by omega)]; omega) ?_
        refine V_aload_n dX11_layCold_20 rfl rfl ?_
        refine V_getR dX11_layCold_21 fl_X11_100 (by first | assumption | exact ⟨by decide, rfl⟩) (by first | assumption | rfl) ?_
        refine V_iload dX11_layCold_24 rfl (V_iload dX11_layCold_26 rfl (V_iload_n dX11_layCold_28 rfl rfl ?_))
        refine V_icmp_ne_t (tgt := 38) dX11_layCold_29 (by decide) (fun z => hkh ((nI_eq (by omega) (by omega)).mp z)) ?_
        refine V_iconst (v := 0) dX11_layCold_38 (by decide) ?_
        refine V_ias dX11_layCold_39 (by first | assumption | exact ⟨by decide, rfl⟩) (show ix _ k 1024 from ⟨rfl, by omega⟩) ?_
        refine V_iinc_4 (w := 1) dX11_layCold_40 (by decide) (by decide) rfl (V_goto (tgt := 14) dX11_layCold_43 (by decide) ?_)
        rw [nI_1]
        exact fin _ (by show _ = nI (if k = h then 1000000 else 0); rw [if_neg hkh]; rfl)
  exact key1 0 (Nat.zero_le _) I (fun _ _ _ _ _ => rfl) (fun s hs => absurd hs (by omega))
end
section
variable {E : En} {I : TI} {J : TJ} {co dr : Nat} {cc a1 a2 : Option Nat} {Post : PT} {t : Nat → Nat} {len : Nat} {K : KT} {D D1 D2 : Di} {kp : Nat} {tl : Nat → Int32} {d : Nat}
theorem FrK.MS {I' : TI} (g : FrK I I') (h : MS t len K D D1 D2 kp tl I) : MS t len K D D1 D2 kp tl I' := h.sc (fun x y a b => g x y (by omega) (by omega) (by omega)) (g _ _ (by omega) (by omega) (by omega)) (g _ _ (by omega) (by omega) (by omega))
/-- what is added for a set -/
noncomputable def cdA (K : KT) (T : Nat → Nat) (x : Int32) (s : Nat) : Nat := if x.toInt < 10 then illS K T (cl x) s else if x = 10 then metS K T s else 0
theorem rop_cold (hd : 5 ≤ d) (hDB : DB D.1 D.2.1) (h : MS t len K D D1 D2 kp tl I) {had dd x : Int32} : Cal E d M_X11_cold [.ref 70, .int had, .int dd, .int x] NC I J (RR co dr cc a1 a2) (MK t len K D D1 D2 kp tl (some (.int (a_cold K had dd x))) I J (RR co dr cc a1 a2)) := by
  have h' := h
  obtain ⟨hB, hM, hR, hT, hD⟩ := h
  have hP := hB.1.1
  have hpw : 2 ^ K 0 0 ≤ 1024 := Nat.pow_le_pow_right (n := 2) (by decide) hP
  have hpos : 1 ≤ 2 ^ K 0 0 := Nat.one_le_two_pow
  have e10 : (10 : Int32).toInt = 10 := by decide
  have e11 : (11 : Int32).toInt = 11 := by decide
  have e12 : (12 : Int32).toInt = 12 := by decide
  refine Cal_of kn_X11_cold rfl (Nat.le_of_ble_eq_true rfl) ?_
  refine V_aload_n dX11_cold_0 rfl rfl (V_iload_n dX11_cold_1 rfl rfl ?_)
  refine V_cV1i (M' := M_X11_isOff) (d' := 2) dX11_cold_2 (Or.inl ml_X11_229) kb_X11_isOff (by first | assumption | exact ⟨by decide, rfl⟩) (by first | decide | omega) (by simp [Value.category]) ⟨by decide, by decide⟩ ?_
  refine mr_isOff hM.n0 hP ⟨_, rfl, ?_⟩
  cases hv : inR had (2 ^ K 0 0)
  · refine V_if_eq_t (tgt := 46) dX11_cold_5 (by decide) (rfl) ?_
    refine V_iconst (v := (-1)) dX11_cold_46 (by decide) ?_
    refine V_ireturn dX11_cold_47 rfl rfl rfl (by decide) (by decide) ?_
    refine MK.eq ?_ h'
    rw [a_cold, hv]; simp
  obtain ⟨q1, q2⟩ := inR_cl hv (Nat.pow_lt_pow_right (by decide) (by omega))
  refine V_if_eq_f (tgt := 46) dX11_cold_5 (by decide) (by decide) ?_
  refine V_iload_n dX11_cold_8 rfl rfl (V_i2l dX11_cold_9 (V_lconst (v := 0) dX11_cold_10 rfl (V_ldc2_w dX11_cold_11 ct_X11_275 ?_)))
  refine V_cS3i (M' := M_X11_in) (d' := 1) dX11_cold_14 (Or.inl ml_X11_124) kb_X11_in (by first | decide | omega) (by simp [Value.category]) ⟨by decide, by decide⟩ ?_
  refine mr_in ⟨_, rfl, ?_⟩
  have ed : decide ((0 : Int64).toInt ≤ dd.toInt64.toInt ∧ dd.toInt64.toInt ≤ (14 : Int64).toInt) = inR dd 15 := by
    rw [in_C (u := 0) (v := 14) (by decide) (by decide)]
    exact decide_eq_decide.mpr (by omega)
  rw [ed]
  cases hvd : inR dd 15
  · refine V_if_eq_t (tgt := 46) dX11_cold_17 (by decide) (rfl) ?_
    refine V_iconst (v := (-1)) dX11_cold_46 (by decide) ?_
    refine V_ireturn dX11_cold_47 rfl rfl rfl (by decide) (by decide) ?_
    refine MK.eq ?_ h'
    rw [a_cold, hvd]; simp
  obtain ⟨p1, p2⟩ := inR_cl hvd (by omega)
  refine V_if_eq_f (tgt := 46) dX11_cold_17 (by decide) (by decide) ?_
  refine V_iload_n dX11_cold_20 rfl rfl (V_i2l dX11_cold_21 (V_lconst (v := 0) dX11_cold_22 rfl (V_ldc2_w dX11_cold_23 ct_X11_277 ?_)))
  refine V_cS3i (M' := M_X11_in) (d' := 1) dX11_cold_26 (Or.inl ml_X11_124) kb_X11_in (by first | decide | omega) (by simp [Value.category]) ⟨by decide, by decide⟩ ?_
  refine mr_in ⟨_, rfl, ?_⟩
  rw [in_C (u := 0) (v := 12) (by decide) (by decide)]
  have bad : cdW K x = false → MK t len K D D1 D2 kp tl (some (.int (a_cold K had dd x))) I J (RR co dr cc a1 a2) (some (.int (-1))) NC I J (RR co dr cc a1 a2) := by
    intro hz
    refine MK.eq ?_ h'
    rw [a_cold, hz]; rfl
  by_cases hin : 0 ≤ x.toInt ∧ x.toInt ≤ 12
  · rw [decide_eq_true hin]
    -- the answer
    have good : cdW K x = true → V E d M_X11_cold (MK t len K D D1 D2 kp tl (some (.int (a_cold K had dd x))) I J (RR co dr cc a1 a2)) 48 [some (.ref 70), some (.int had), some (.int dd), some (.int x), none, none, none, none, none] [] NC 0 0 I J (RR co dr cc a1 a2) := by
      intro hcd
      have hans : a_cold K had dd x = (if x = 10 then nI (fb_sm (metS K (cold K (cl had) (cl dd))) (2 ^ K 0 0)) else if x = 11 then nI (lik (cold K (cl had) (cl dd)) (2 ^ K 0 0)) else if x = 12 then nI (cold K (cl had) (cl dd) (lik (cold K (cl had) (cl dd)) (2 ^ K 0 0))) else nI (fb_sm (illS K (cold K (cl had) (cl dd)) (cl x)) (2 ^ K 0 0))) := by
        rw [a_cold, hcd, hv, hvd]; rfl
      rw [hans]
      clear hans
      have hT1 := fun s (hs : s < 2 ^ K 0 0) => cold_le K q1 (cl dd) hs
      refine V_aload_n dX11_cold_48 rfl rfl (V_iload_n dX11_cold_49 rfl rfl (V_iload_n dX11_cold_50 rfl rfl ?_))
      refine V_cV2v (M' := M_X11_layCold) (d' := 4) dX11_cold_51 (Or.inl ml_X11_279) kb_X11_layCold (by first | assumption | exact ⟨by decide, rfl⟩) (by first | decide | omega) (by simp [Value.category]) ⟨by decide, by decide⟩ ?_
      rw [show [Value.ref 70, Value.int had, Value.int dd] = [Value.ref 70, Value.int (nI (cl had)), Value.int (nI (cl dd))] by rw [← q2, ← p2]]
      refine mr_layCold hB hM q1 (by omega) (fun I1 f1 g1 => ⟨rfl, ?_⟩)
      generalize hTT : cold K (cl had) (cl dd) = T at *
      have hM1 : MB I1 K := hM.all hB (fun x y a b => f1 x y (by omega) (by omega) (by omega))
      have hR1 : MR I1 K := hR.of (fun y => f1 _ _ (by omega) (by omega) (by omega)) (fun y => f1 _ _ (by omega) (by omega) (by omega))
      have hD1 : MDX I1 0 D := hD.1.of (fun x y a b => f1 x y (by omega) (by omega) (by omega))
      refine V_iconst (v := 1) dX11_cold_54 (by decide) (V_aload_n dX11_cold_55 rfl rfl ?_)
      refine V_getR dX11_cold_56 fl_X11_13 (by first | assumption | exact ⟨by decide, rfl⟩) (by first | assumption | rfl) ?_
      refine V_iconst (v := 0) dX11_cold_59 (by decide) ?_
      refine V_ial dX11_cold_60 (by first | assumption | exact ⟨by decide, rfl⟩) (show ix _ 0 _ from ⟨rfl, by decide⟩) ?_
      refine V_ishl dX11_cold_61 (V_iconst (v := 1) dX11_cold_62 (by decide) (V_isub dX11_cold_63 (V_istore_4 dX11_cold_64 (by decide) rfl (V_iconst (v := 0) dX11_cold_66 (by decide) (V_istore_5 dX11_cold_67 (by decide) rfl ?_)))))
      refine V_iconst (v := 0) dX11_cold_69 (by decide) (V_istore_6 dX11_cold_70 (by decide) rfl (V_iconst (v := 0) dX11_cold_72 (by decide) (V_istore_7 dX11_cold_73 (by decide) rfl ?_)))
      rw [hM1.n0, shl1 (by omega), show (1 : Int32) = nI 1 from rfl, pk_sub hpos]
      have key : ∀ s, s ≤ 2 ^ K 0 0 → ∀ I2 J2, FrC I1 I2 → FJ J J2 → V E d M_X11_cold (MK t len K D D1 D2 kp tl (some (.int (if x = 10 then nI (fb_sm (metS K T) (2 ^ K 0 0)) else if x = 11 then nI (lik T (2 ^ K 0 0)) else if x = 12 then nI (T (lik T (2 ^ K 0 0))) else nI (fb_sm (illS K T (cl x)) (2 ^ K 0 0))))) I J (RR co dr cc a1 a2)) 75 [some (.ref 70), some (.int had), some (.int dd), some (.int x), some (.int (nI (2 ^ K 0 0 - 1))), some (.int (nI (fb_sm (cdA K T x) s))), some (.int (nI (lik T s))), some (.int (nI s)), none] [] NC 0 0 I2 J2 (RR co dr cc a1 a2) := by
        refine loop_up (2 ^ K 0 0) ?_ ?_
        · intro I2 J2 f2 j2
          have fin : ∀ v, MK t len K D D1 D2 kp tl (some (.int v)) I J (RR co dr cc a1 a2) (some (.int v)) NC I2 J2 (RR co dr cc a1 a2) := fun v => ⟨rfl, rfl, rfl, f2.MS (f1.MS h'), fun x y a => by rw [f2.lo x y a]; exact f1 x y (by omega) (by omega) (by omega), j2.mk⟩
          have hll := lik_lt' T (show 0 < 2 ^ K 0 0 by omega)
          by_cases c1 : x.toInt < 10
          · have n10 : ¬ x = 10 := fun z => by rw [z, e10] at c1; omega
            have n11 : ¬ x = 11 := fun z => by rw [z, e11] at c1; omega
            have n12 : ¬ x = 12 := fun z => by rw [z, e12] at c1; omega
            refine V_iload dX11_cold_75 rfl (V_iload dX11_cold_77 rfl ?_)
            refine V_icmp_gt_t (tgt := 184) dX11_cold_79 (by decide) (nI_lt (by omega) (by omega)) ?_
            refine V_iload_n dX11_cold_184 rfl rfl (V_bipush (v := 11) dX11_cold_185 (by decide) ?_)
            refine V_icmp_ge_f (tgt := 195) dX11_cold_187 (by decide) (by rw [fa_le, e11]; omega) ?_
            refine V_iload dX11_cold_190 rfl (V_goto (tgt := 213) dX11_cold_192 (by decide) ?_)
            refine V_ireturn dX11_cold_213 rfl rfl rfl (by decide) (by decide) ?_
            rw [if_neg n10, if_neg n11, if_neg n12, show fb_sm (cdA K T x) (2 ^ K 0 0) = fb_sm (illS K T (cl x)) (2 ^ K 0 0) from fb_sm_cong (fun s _ => by unfold cdA; rw [if_pos c1])]
            exact fin _
          · by_cases c2 : x = 10
            · subst c2
              refine V_iload dX11_cold_75 rfl (V_iload dX11_cold_77 rfl ?_)
              refine V_icmp_gt_t (tgt := 184) dX11_cold_79 (by decide) (nI_lt (by omega) (by omega)) ?_
              refine V_iload_n dX11_cold_184 rfl rfl (V_bipush (v := 11) dX11_cold_185 (by decide) ?_)
              refine V_icmp_ge_f (tgt := 195) dX11_cold_187 (by decide) (by decide) ?_
              refine V_iload dX11_cold_190 rfl (V_goto (tgt := 213) dX11_cold_192 (by decide) ?_)
              refine V_ireturn dX11_cold_213 rfl rfl rfl (by decide) (by decide) ?_
              rw [if_pos rfl, show fb_sm (cdA K T 10) (2 ^ K 0 0) = fb_sm (metS K T) (2 ^ K 0 0) from fb_sm_cong (fun s _ => by unfold cdA; rw [if_neg c1, if_pos rfl])]
              exact fin _
            · have n10 : x.toInt ≠ 10 := fun z => c2 (to_lit 10 z (by decide))
              by_cases c3 : x = 11
              · subst c3
                refine V_iload dX11_cold_75 rfl (V_iload dX11_cold_77 rfl ?_)
                refine V_icmp_gt_t (tgt := 184) dX11_cold_79 (by decide) (nI_lt (by omega) (by omega)) ?_
                refine V_iload_n dX11_cold_184 rfl rfl (V_bipush (v := 11) dX11_cold_185 (by decide) ?_)
                refine V_icmp_ge_t (tgt := 195) dX11_cold_187 (by decide) (by decide) ?_
                refine V_iload_n dX11_cold_195 rfl rfl (V_bipush (v := 11) dX11_cold_196 (by decide) ?_)
                refine V_icmp_ne_f (tgt := 206) dX11_cold_198 (by decide) (rfl) ?_
                refine V_iload dX11_cold_201 rfl (V_goto (tgt := 213) dX11_cold_203 (by decide) ?_)
                refine V_ireturn dX11_cold_213 rfl rfl rfl (by decide) (by decide) ?_
                exact fin _
              · have n11 : x.toInt ≠ 11 := fun z => c3 (to_lit 11 z (by decide))
                obtain rfl : x = 12 := to_lit 12 (show x.toInt = 12 by omega) (by decide)
                refine V_iload dX11_cold_75 rfl (V_iload dX11_cold_77 rfl ?_)
                refine V_icmp_gt_t (tgt := 184) dX11_cold_79 (by decide) (nI_lt (by omega) (by omega)) ?_
                refine V_iload_n dX11_cold_184 rfl rfl (V_bipush (v := 11) dX11_cold_185 (by decide) ?_)
                refine V_icmp_ge_t (tgt := 195) dX11_cold_187 (by decide) (by decide) ?_
                refine V_iload_n dX11_cold_195 rfl rfl (V_bipush (v := 11) dX11_cold_196 (by decide) ?_)
                refine V_icmp_ne_t (tgt := 206) dX11_cold_198 (by decide) (by decide) ?_
                refine V_aload_n dX11_cold_206 rfl rfl ?_
                refine V_getR dX11_cold_207 fl_X11_100 (by first | assumption | exact ⟨by decide, rfl⟩) (by first | assumption | rfl) ?_
                refine V_iload dX11_cold_210 rfl ?_
                refine V_ial dX11_cold_212 (by first | assumption | exact ⟨by decide, rfl⟩) (show ix _ (lik T (2 ^ K 0 0)) 1024 from ⟨rfl, by omega⟩) ?_
                refine V_ireturn dX11_cold_213 rfl rfl rfl (by decide) (by decide) ?_
                rw [f2 101 _ (by omega) (by omega) (by omega) (by omega), g1 _ hll]
                exact fin _
        · intro s hs ih I2 J2 f2 j2
          have hTs := hT1 s hs
          have hll := lik_lt T s
          have hTl := hT1 (lik T s) (by omega)
          rw [fb_sm_succ] at ih
          have eL : lik T (s + 1) = if T (lik T s) < T s then s else lik T s := rfl
          rw [eL] at ih
          -- is: whether the set counts
          have t129 : ∀ (b : Bool) I3 J3, FrC I1 I3 → FJ J J3 → (if b = true then T s else 0) = cdA K T x s → V E d M_X11_cold (MK t len K D D1 D2 kp tl (some (.int (if x = 10 then nI (fb_sm (metS K T) (2 ^ K 0 0)) else if x = 11 then nI (lik T (2 ^ K 0 0)) else if x = 12 then nI (T (lik T (2 ^ K 0 0))) else nI (fb_sm (illS K T (cl x)) (2 ^ K 0 0))))) I J (RR co dr cc a1 a2)) 129 [some (.ref 70), some (.int had), some (.int dd), some (.int x), some (.int (nI (2 ^ K 0 0 - 1))), some (.int (nI (fb_sm (cdA K T x) s))), some (.int (nI (lik T s))), some (.int (nI s)), none] [.int (b2i b)] NC 0 0 I3 J3 (RR co dr cc a1 a2) := by
            intro b I3 J3 f3 j3 hb
            have h101 : I3 101 s = nI (T s) := by rw [f3 101 _ (by omega) (by omega) (by omega) (by omega)]; exact g1 s hs
            have h101l : I3 101 (lik T s) = nI (T (lik T s)) := by rw [f3 101 _ (by omega) (by omega) (by omega) (by omega)]; exact g1 _ (by omega)
            have t152 : V E d M_X11_cold (MK t len K D D1 D2 kp tl (some (.int (if x = 10 then nI (fb_sm (metS K T) (2 ^ K 0 0)) else if x = 11 then nI (lik T (2 ^ K 0 0)) else if x = 12 then nI (T (lik T (2 ^ K 0 0))) else nI (fb_sm (illS K T (cl x)) (2 ^ K 0 0))))) I J (RR co dr cc a1 a2)) 152 [some (.ref 70), some (.int had), some (.int dd), some (.int x), some (.int (nI (2 ^ K 0 0 - 1))), some (.int (nI (fb_sm (cdA K T x) s + cdA K T x s))), some (.int (nI (lik T s))), some (.int (nI s)), some (.int (b2i b))] [] NC 0 0 I3 J3 (RR co dr cc a1 a2) := by
              by_cases hlt : T (lik T s) < T s
              · rw [if_pos hlt] at ih
                refine V_aload_n dX11_cold_152 rfl rfl ?_
                refine V_getR dX11_cold_153 fl_X11_100 (by first | assumption | exact ⟨by decide, rfl⟩) (by first | assumption | rfl) ?_
                refine V_iload dX11_cold_156 rfl ?_
                refine V_ial dX11_cold_158 (by first | assumption | exact ⟨by decide, rfl⟩) (show ix _ s 1024 from ⟨rfl, by omega⟩) ?_
                refine V_aload_n dX11_cold_159 rfl rfl ?_
                refine V_getR dX11_cold_160 fl_X11_100 (by first | assumption | exact ⟨by decide, rfl⟩) (by first | assumption | rfl) ?_
                refine V_iload dX11_cold_163 rfl ?_
                refine V_ial dX11_cold_165 (by first | assumption | exact ⟨by decide, rfl⟩) (show ix _ (lik T s) 1024 from ⟨rfl, by omega⟩) ?_
                refine V_icmp_le_f (tgt := 174) dX11_cold_166 (by decide) (by rw [h101, h101l]; exact nI_ge hlt (by omega)) ?_
                refine V_iload dX11_cold_169 rfl (V_goto (tgt := 176) dX11_cold_171 (by decide) (V_istore_6 dX11_cold_176 (by decide) rfl (V_iinc_7 (w := 1) dX11_cold_178 (by decide) (by decide) rfl (V_goto (tgt := 75) dX11_cold_181 (by decide) ?_))))
                rw [nI_1]
                exact V_forget (ih I3 J3 f3 j3) (by simp [lessb])
              · rw [if_neg hlt] at ih
                refine V_aload_n dX11_cold_152 rfl rfl ?_
                refine V_getR dX11_cold_153 fl_X11_100 (by first | assumption | exact ⟨by decide, rfl⟩) (by first | assumption | rfl) ?_
                refine V_iload dX11_cold_156 rfl ?_
                refine V_ial dX11_cold_158 (by first | assumption | exact ⟨by decide, rfl⟩) (show ix _ s 1024 from ⟨rfl, by omega⟩) ?_
                refine V_aload_n dX11_cold_159 rfl rfl ?_
                refine V_getR dX11_cold_160 fl_X11_100 (by first | assumption | exact ⟨by decide, rfl⟩) (by first | assumption | rfl) ?_
                refine V_iload dX11_cold_163 rfl ?_
                refine V_ial dX11_cold_165 (by first | assumption | exact ⟨by decide, rfl⟩) (show ix _ (lik T s) 1024 from ⟨rfl, by omega⟩) ?_
                refine V_icmp_le_t (tgt := 174) dX11_cold_166 (by decide) (by rw [h101, h101l]; exact nI_le (by omega) (by omega)) ?_
                refine V_iload dX11_cold_174 rfl (V_istore_6 dX11_cold_176 (by decide) rfl (V_iinc_7 (w := 1) dX11_cold_178 (by decide) (by decide) rfl (V_goto (tgt := 75) dX11_cold_181 (by decide) ?_)))
                rw [nI_1]
                exact V_forget (ih I3 J3 f3 j3) (by simp [lessb])
            cases b
            · rw [← hb, if_neg (show ¬ false = true by decide), Nat.add_zero] at t152
              refine V_istore_8 dX11_cold_129 (by decide) rfl (V_iload dX11_cold_131 rfl (V_iload dX11_cold_133 rfl ?_))
              refine V_if_eq_t (tgt := 148) dX11_cold_135 (by decide) (rfl) ?_
              refine V_iconst (v := 0) dX11_cold_148 (by decide) (V_iadd dX11_cold_149 (V_istore_5 dX11_cold_150 (by decide) rfl ?_))
              rw [Int32.add_zero]
              exact t152
            · rw [← hb, if_pos (show true = true from rfl)] at t152
              refine V_istore_8 dX11_cold_129 (by decide) rfl (V_iload dX11_cold_131 rfl (V_iload dX11_cold_133 rfl ?_))
              refine V_if_eq_f (tgt := 148) dX11_cold_135 (by decide) (by decide) ?_
              refine V_aload_n dX11_cold_138 rfl rfl ?_
              refine V_getR dX11_cold_139 fl_X11_100 (by first | assumption | exact ⟨by decide, rfl⟩) (by first | assumption | rfl) ?_
              refine V_iload dX11_cold_142 rfl ?_
              refine V_ial dX11_cold_144 (by first | assumption | exact ⟨by decide, rfl⟩) (show ix _ s 1024 from ⟨rfl, by omega⟩) ?_
              refine V_goto (tgt := 149) dX11_cold_145 (by decide) (V_iadd dX11_cold_149 (V_istore_5 dX11_cold_150 (by decide) rfl ?_))
              rw [h101, nI_add]
              exact t152
          have hsl : ¬ nI (2 ^ K 0 0 - 1) < nI s := by rw [lit_lt (by omega) (by omega)]; omega
          by_cases c1 : x.toInt < 10
          · have hcx : inR x (K 0 0) = true := by
              unfold cdW at hcd
              rcases Bool.or_eq_true _ _ ▸ hcd with z | z
              · exact z
              · have := of_decide_eq_true z; omega
            obtain ⟨w1, w2⟩ := inR_cl hcx (by omega)
            refine V_iload dX11_cold_75 rfl (V_iload dX11_cold_77 rfl ?_)
            refine V_icmp_gt_f (tgt := 184) dX11_cold_79 (by decide) (hsl) ?_
            refine V_iload_n dX11_cold_82 rfl rfl (V_bipush (v := 10) dX11_cold_83 (by decide) ?_)
            refine V_icmp_ge_f (tgt := 97) dX11_cold_85 (by decide) (by rw [fa_le, e10]; omega) ?_
            refine V_iload dX11_cold_88 rfl (V_iload_n dX11_cold_90 rfl rfl ?_)
            refine V_cS2i (M' := M_X11_has) (d' := 1) dX11_cold_91 (Or.inl ml_X11_183) kb_X11_has (by first | decide | omega) (by simp [Value.category]) ⟨by decide, by decide⟩ ?_
            rw [show [Value.int (nI s), Value.int x] = [Value.int (nI s), Value.int (nI (cl x))] by rw [← w2]]
            refine sp_mhas (by omega) (by omega) ⟨_, rfl, ?_⟩
            refine V_goto (tgt := 129) dX11_cold_94 (by decide) ?_
            refine t129 _ I2 J2 f2 j2 ?_
            unfold cdA illS
            rw [if_pos c1]
          · by_cases c2 : x = 10
            · have h101 : I2 101 s = nI (T s) := by rw [f2 101 _ (by omega) (by omega) (by omega) (by omega)]; exact g1 s hs
              have g10 : (10 : Int32) ≤ x := by rw [c2]; decide
              by_cases hz : T s = 0
              · refine V_iload dX11_cold_75 rfl (V_iload dX11_cold_77 rfl ?_)
                refine V_icmp_gt_f (tgt := 184) dX11_cold_79 (by decide) (hsl) ?_
                refine V_iload_n dX11_cold_82 rfl rfl (V_bipush (v := 10) dX11_cold_83 (by decide) ?_)
                refine V_icmp_ge_t (tgt := 97) dX11_cold_85 (by decide) (g10) ?_
                refine V_iload_n dX11_cold_97 rfl rfl (V_bipush (v := 10) dX11_cold_98 (by decide) ?_)
                refine V_icmp_ne_f (tgt := 128) dX11_cold_100 (by decide) (c2) ?_
                refine V_aload_n dX11_cold_103 rfl rfl ?_
                refine V_getR dX11_cold_104 fl_X11_100 (by first | assumption | exact ⟨by decide, rfl⟩) (by first | assumption | rfl) ?_
                refine V_iload dX11_cold_107 rfl ?_
                refine V_ial dX11_cold_109 (by first | assumption | exact ⟨by decide, rfl⟩) (show ix _ s 1024 from ⟨rfl, by omega⟩) ?_
                refine V_if_le_t (tgt := 128) dX11_cold_110 (by decide) (by rw [h101, hz]; decide) ?_
                refine V_iconst (v := 0) dX11_cold_128 (by decide) ?_
                refine t129 false I2 J2 f2 j2 ?_
                unfold cdA metS
                rw [if_neg c1, if_pos c2, hz]
                cases metB K s 0 <;> rfl
              · refine V_iload dX11_cold_75 rfl (V_iload dX11_cold_77 rfl ?_)
                refine V_icmp_gt_f (tgt := 184) dX11_cold_79 (by decide) (hsl) ?_
                refine V_iload_n dX11_cold_82 rfl rfl (V_bipush (v := 10) dX11_cold_83 (by decide) ?_)
                refine V_icmp_ge_t (tgt := 97) dX11_cold_85 (by decide) (g10) ?_
                refine V_iload_n dX11_cold_97 rfl rfl (V_bipush (v := 10) dX11_cold_98 (by decide) ?_)
                refine V_icmp_ne_f (tgt := 128) dX11_cold_100 (by decide) (c2) ?_
                refine V_aload_n dX11_cold_103 rfl rfl ?_
                refine V_getR dX11_cold_104 fl_X11_100 (by first | assumption | exact ⟨by decide, rfl⟩) (by first | assumption | rfl) ?_
                refine V_iload dX11_cold_107 rfl ?_
                refine V_ial dX11_cold_109 (by first | assumption | exact ⟨by decide, rfl⟩) (show ix _ s 1024 from ⟨rfl, by omega⟩) ?_
                refine V_if_le_f (tgt := 128) dX11_cold_110 (by decide) (by rw [h101, show (0 : Int32) = nI 0 from rfl, lit_le (by omega) (by omega)]; omega) ?_
                refine V_aload_n dX11_cold_113 rfl rfl (V_iload dX11_cold_114 rfl (V_iconst (v := 0) dX11_cold_116 (by decide) (V_iconst (v := 0) dX11_cold_117 (by decide) ?_)))
                refine V_cV3i (M' := M_X11_cast) (d' := 4) dX11_cold_118 (Or.inl ml_X11_235) kb_X11_cast (by first | assumption | exact ⟨by decide, rfl⟩) (by first | decide | omega) (by simp [Value.category]) ⟨by decide, by decide⟩ ?_
                refine mr_cast (all := false) (cut := 0) hB (f2.MB hB hM1) (f2.MR hR1) (f2.MDX hD1) hDB (by omega) (by decide) (fun _ I3 J3 g3 g4 => ⟨_, rfl, ?_⟩) (fun z => by cases z)
                have ec : cdA K T x s = if metB K s 0 = true then T s else 0 := by
                  unfold cdA metS
                  rw [if_neg c1, if_pos c2]
                cases hm : metB K s 0
                · refine V_if_eq_t (tgt := 128) dX11_cold_121 (by decide) (rfl) ?_
                  refine V_iconst (v := 0) dX11_cold_128 (by decide) ?_
                  exact t129 false I3 J3 (f2.trans g3) (j2.trans g4) (by rw [ec, hm])
                · refine V_if_eq_f (tgt := 128) dX11_cold_121 (by decide) (by decide) ?_
                  refine V_iconst (v := 1) dX11_cold_124 (by decide) (V_goto (tgt := 129) dX11_cold_125 (by decide) ?_)
                  exact t129 true I3 J3 (f2.trans g3) (j2.trans g4) (by rw [ec, hm])
            · refine V_iload dX11_cold_75 rfl (V_iload dX11_cold_77 rfl ?_)
              refine V_icmp_gt_f (tgt := 184) dX11_cold_79 (by decide) (hsl) ?_
              refine V_iload_n dX11_cold_82 rfl rfl (V_bipush (v := 10) dX11_cold_83 (by decide) ?_)
              refine V_icmp_ge_t (tgt := 97) dX11_cold_85 (by decide) (by rw [fa_le, e10]; omega) ?_
              refine V_iload_n dX11_cold_97 rfl rfl (V_bipush (v := 10) dX11_cold_98 (by decide) ?_)
              refine V_icmp_ne_t (tgt := 128) dX11_cold_100 (by decide) (c2) ?_
              refine V_iconst (v := 0) dX11_cold_128 (by decide) ?_
              refine t129 false I2 J2 f2 j2 ?_
              unfold cdA
              rw [if_neg c1, if_neg c2]
              rfl
      exact V_forget (key 0 (Nat.zero_le _) I1 J FrC.refl FJ.refl) (by simp [lessb, fb_sm, lik, nI_0])
    by_cases c1 : x.toInt < 10
    · refine V_if_eq_f (tgt := 46) dX11_cold_29 (by decide) (by decide) ?_
      refine V_iload_n dX11_cold_32 rfl rfl (V_bipush (v := 10) dX11_cold_33 (by decide) ?_)
      refine V_icmp_ge_f (tgt := 48) dX11_cold_35 (by decide) (by rw [fa_le, e10]; omega) ?_
      refine V_aload_n dX11_cold_38 rfl rfl (V_iload_n dX11_cold_39 rfl rfl ?_)
      refine V_cV1i (M' := M_X11_isPlayer) (d' := 2) dX11_cold_40 (Or.inl ml_X11_195) kb_X11_isPlayer (by first | assumption | exact ⟨by decide, rfl⟩) (by first | decide | omega) (by simp [Value.category]) ⟨by decide, by decide⟩ ?_
      refine mr_isPlayer hM.n0 hP ⟨_, rfl, ?_⟩
      cases hpx : inR x (K 0 0)
      · refine V_if_ne_f (tgt := 48) dX11_cold_43 (by decide) (rfl) ?_
        refine V_iconst (v := (-1)) dX11_cold_46 (by decide) ?_
        refine V_ireturn dX11_cold_47 rfl rfl rfl (by decide) (by decide) ?_
        refine bad ?_
        unfold cdW
        rw [hpx, decide_eq_false (by omega)]; rfl
      · refine V_if_ne_t (tgt := 48) dX11_cold_43 (by decide) (by decide) ?_
        exact good (by unfold cdW; rw [hpx]; rfl)
    · refine V_if_eq_f (tgt := 46) dX11_cold_29 (by decide) (by decide) ?_
      refine V_iload_n dX11_cold_32 rfl rfl (V_bipush (v := 10) dX11_cold_33 (by decide) ?_)
      refine V_icmp_ge_t (tgt := 48) dX11_cold_35 (by decide) (by rw [fa_le, e10]; omega) ?_
      exact good (by unfold cdW; rw [decide_eq_true (show 10 ≤ x.toInt ∧ x.toInt ≤ 12 by omega)]; simp)
  · rw [decide_eq_false hin]
    refine V_if_eq_t (tgt := 46) dX11_cold_29 (by decide) (rfl) ?_
    refine V_iconst (v := (-1)) dX11_cold_46 (by decide) ?_
    refine V_ireturn dX11_cold_47 rfl rfl rfl (by decide) (by decide) ?_
    refine bad ?_
    unfold cdW
    have hno : inR x (K 0 0) = false := decide_eq_false (fun z => hin (by omega))
    rw [hno, decide_eq_false (by omega)]; rfl
end
