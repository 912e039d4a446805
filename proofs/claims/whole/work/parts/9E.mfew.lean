/-! Call of the reference: fewest -/
section
variable {E : En} {I : TI} {J : TJ} {co dr : Nat} {cc a1 a2 : Option Nat} {Post : PT} {t : Nat → Nat} {len : Nat} {K : KT} {D D1 D2 : Di} {kp : Nat} {tl : Nat → Int32} {d : Nat}
theorem div8 {a : Nat} (h : a < 2 ^ 31) : nI a / 8 = nI (a / 8) := by rw [show (8 : Int32) = nI 8 from rfl, pk_div h (by omega) (by omega)]
theorem mod8 {a : Nat} (h : a < 2 ^ 31) : nI a - nI a / 8 * 8 = nI (a % 8) := by rw [show (8 : Int32) = nI 8 from rfl, pk_rem h (by omega) (by omega)]
/-- whether a place is a cover, and on with it set -/
theorem set_K {u : Nat} {I1 I2 : TI} (hM : MB I2 (up2 K 3 (u / 8) (K 3 (u / 8) ||| 2 ^ (u % 8)))) : MB I2 (cvK K u) := hM
theorem set_R {u : Nat} {I2 : TI} (hM : MR I2 (up2 K 3 (u / 8) (K 3 (u / 8) ||| 2 ^ (u % 8)))) : MR I2 (cvK K u) := hM
theorem mr_set {u : Nat} {I1 : TI} {J1 : TJ} (hB : KB K) (hc : cva K u = true) (hM : MB I1 K) (hR : MR I1 K) (Kk : ∀ I', FrE I1 I' → MB I' (cvK K u) → MR I' (cvK K u) → Post none NC I' J1 (RR co dr cc a1 a2)) : Cal E 4 M_X11_setCover [.ref 70, .int (nI (u / 8)), .int (nI (u % 8)), .int 1] NC I1 J1 (RR co dr cc a1 a2) Post := by
  obtain ⟨v1, v2, v3, v4, v5, v6⟩ := cva_in hc
  exact mr_setCover (b := true) hB (KB_cvK hB hc) hM hR v2 v3 rfl (fun I3 f3 hM3 hR3 => Kk I3 (FrE.sc f3) hM3 hR3)
theorem mr_unset {u : Nat} {I1 : TI} {J1 : TJ} (hB : KB K) (hc : cva K u = true) (hM : MB I1 (cvK K u)) (hR : MR I1 (cvK K u)) (Kk : ∀ I', FrE I1 I' → MB I' K → MR I' K → Post none NC I' J1 (RR co dr cc a1 a2)) : Cal E 4 M_X11_setCover [.ref 70, .int (nI (u / 8)), .int (nI (u % 8)), .int 0] NC I1 J1 (RR co dr cc a1 a2) Post := by
  obtain ⟨v1, v2, v3, v4, v5, v6⟩ := cva_in hc
  obtain ⟨k1, k2⟩ := may_known v4 v5
  have hbk := cvK_back (K := K) (t := u) k1
  have h9 := mr_setCover (E := E) (I := I1) (J := J1) (co := co) (dr := dr) (cc := cc) (a1 := a1) (a2 := a2) (K := cvK K u) (t := u) (v := andn (cvK K u 3 (u / 8)) (2 ^ (u % 8))) (b := false) (KB_cvK hB hc) (by rw [hbk]; exact hB) hM hR (by rw [cvK_ne (by decide)]; exact v2) (by rw [cvK_ne (by decide)]; exact v3) rfl (Post := Post)
  rw [hbk] at h9
  exact h9 (fun I3 f3 hM3 hR3 => Kk I3 (FrE.sc f3) hM3 hR3)
noncomputable def one_ (K : KT) (a : Nat) : Bool := dcd (∃ u, u < a ∧ cva K u = true ∧ wW (cvK K u) 2 = 0)
noncomputable def twoI (K : KT) (a b : Nat) : Bool := dcd (∃ v, a < v ∧ v < b ∧ cva K v = true ∧ wW (cvK (cvK K a) v) 2 = 0)
noncomputable def two_ (K : KT) (a : Nat) : Bool := dcd (∃ u, u < a ∧ cva K u = true ∧ twoI K u 80 = true)
theorem one_succ_no {a : Nat} (h : ¬ (cva K a = true ∧ wW (cvK K a) 2 = 0)) : one_ K (a + 1) = one_ K a := dcd_congr ⟨fun ⟨u, x, y, z⟩ => ⟨u, by
    by_cases hu : u = a
    · subst hu; exact absurd ⟨y, z⟩ h
    · omega, y, z⟩, fun ⟨u, x, y, z⟩ => ⟨u, by omega, y, z⟩⟩
theorem two_succ_no {a : Nat} (h : ¬ (cva K a = true ∧ twoI K a 80 = true)) : two_ K (a + 1) = two_ K a := dcd_congr ⟨fun ⟨u, x, y, z⟩ => ⟨u, by
    by_cases hu : u = a
    · subst hu; exact absurd ⟨y, z⟩ h
    · omega, y, z⟩, fun ⟨u, x, y, z⟩ => ⟨u, by omega, y, z⟩⟩
theorem twoI_succ_no {a b : Nat} (h : ¬ (cva K b = true ∧ wW (cvK (cvK K a) b) 2 = 0)) : twoI K a (b + 1) = twoI K a b := dcd_congr ⟨fun ⟨u, w, x, y, z⟩ => ⟨u, w, by
    by_cases hu : u = b
    · subst hu; exact absurd ⟨y, z⟩ h
    · omega, y, z⟩, fun ⟨u, w, x, y, z⟩ => ⟨u, w, by omega, y, z⟩⟩
theorem twoI_mono {a b c : Nat} (h : b ≤ c) (hb : twoI K a b = true) : twoI K a c = true := by
  obtain ⟨v, w, x, y, z⟩ := dcd_iff.mp hb
  exact dcd_t ⟨v, w, by omega, y, z⟩
theorem one_80 (hB : KB K) : one_ K 80 = oneB K := by
  have hP := hB.1.1
  rw [Bool.eq_iff_iff, oneB_iff]
  unfold one_
  rw [dcd_iff]
  exact ⟨fun ⟨u, _, y, z⟩ => ⟨u, y, z⟩, fun ⟨u, y, z⟩ => ⟨u, by have := (cva_in y).1; omega, y, z⟩⟩
theorem two_80 (hB : KB K) : two_ K 80 = twoB K := by
  have hP := hB.1.1
  rw [Bool.eq_iff_iff, twoB_iff]
  unfold two_ twoI
  rw [dcd_iff]
  constructor
  · rintro ⟨u, _, y, z⟩
    obtain ⟨v, a, _, c, e⟩ := dcd_iff.mp z
    exact ⟨u, v, a, y, c, e⟩
  · rintro ⟨u, v, a, y, c, e⟩
    have h1 := (cva_in y).1
    have h2 := (cva_in c).1
    exact ⟨u, by omega, y, dcd_t ⟨v, a, by omega, c, e⟩⟩
theorem rop_fewest (hd : 6 ≤ d) (hDB : DB D.1 D.2.1) (h : MS t len K D D1 D2 kp tl I) : Cal E d M_X11_fewest [.ref 70] NC I J (RR co dr cc a1 a2) (MK t len K D D1 D2 kp tl (some (.int (fewV K))) I J (RR co dr cc a1 a2)) := by
  have h' := h
  obtain ⟨hB, hM, hR, hT, hD⟩ := h
  have hP := hB.1.1
  have hQ := hB.1.2.1
  refine Cal_of kn_X11_fewest rfl (Nat.le_of_ble_eq_true rfl) ?_
  refine V_aload_n dX11_fewest_0 rfl rfl ?_
  refine V_cV0i (M' := M_X11_noneWeak) (d' := 5) dX11_fewest_1 (Or.inl ml_X11_300) kb_X11_noneWeak (by first | assumption | exact ⟨by decide, rfl⟩) (by first | decide | omega) (by simp [Value.category]) ⟨by decide, by decide⟩ ?_
  refine mr_noneWeak hB hM hR hD.1 hDB (fun I1 J1 f1 j1 => ⟨_, rfl, ?_⟩)
  have f1e : FrE I I1 := f1.W.toE
  have hM1 := f1.MB hB hM
  have hR1 := f1.MR hR
  by_cases hW : wW K 2 = 0
  · rw [decide_eq_true hW]
    refine V_if_eq_f (tgt := 9) dX11_fewest_4 (by decide) (by decide) ?_
    refine V_iconst (v := 0) dX11_fewest_7 (by decide) ?_
    refine V_ireturn dX11_fewest_8 rfl rfl rfl (by decide) (by decide) ?_
    rw [fewV, if_pos hW]
    exact ⟨rfl, rfl, rfl, f1.MS h', f1.lo, j1.mk⟩
  rw [decide_eq_false hW]
  refine V_if_eq_t (tgt := 9) dX11_fewest_4 (by decide) (rfl) ?_
  refine V_iconst (v := 0) dX11_fewest_9 (by decide) (V_istore_1 dX11_fewest_10 (by decide) rfl (V_iconst (v := 0) dX11_fewest_11 (by decide) (V_istore_2 dX11_fewest_12 (by decide) rfl (V_iconst (v := 0) dX11_fewest_13 (by decide) (V_istore_3 dX11_fewest_14 (by decide) rfl ?_)))))
  rw [fewV, if_neg hW]
  -- the end
  have t201 : ∀ (o w : Bool) I2 J2 o3 o4, FrE I I2 → FJ J J2 → MB I2 K → MR I2 K → (o = true → oneB K = true) → (o = false → oneB K = false ∧ w = twoB K) → V E d M_X11_fewest (MK t len K D D1 D2 kp tl (some (.int (if oneB K = true then 1 else if twoB K = true then 2 else -4))) I J (RR co dr cc a1 a2)) 201 [some (.ref 70), some (.int (b2i o)), some (.int (b2i w)), o3, o4] [] NC 0 0 I2 J2 (RR co dr cc a1 a2) := by
    intro o w I2 J2 o3 o4 f2 j2 hM2 hR2 h1 h2
    have fin : ∀ v, MK t len K D D1 D2 kp tl (some (.int v)) I J (RR co dr cc a1 a2) (some (.int v)) NC I2 J2 (RR co dr cc a1 a2) := fun v => ⟨rfl, rfl, rfl, f2.MS h' hM2 hR2, f2.lo, j2.mk⟩
    cases o
    · obtain ⟨e1, e2⟩ := h2 rfl
      rw [e1, ← e2]
      cases w
      · refine V_iload_n dX11_fewest_201 rfl rfl ?_
        refine V_if_eq_t (tgt := 209) dX11_fewest_202 (by decide) (rfl) ?_
        refine V_iload_n dX11_fewest_209 rfl rfl ?_
        refine V_if_eq_t (tgt := 217) dX11_fewest_210 (by decide) (rfl) ?_
        refine V_bipush (v := (-4)) dX11_fewest_217 (by decide) ?_
        refine V_ireturn dX11_fewest_219 rfl rfl rfl (by decide) (by decide) ?_
        exact fin _
      · refine V_iload_n dX11_fewest_201 rfl rfl ?_
        refine V_if_eq_t (tgt := 209) dX11_fewest_202 (by decide) (rfl) ?_
        refine V_iload_n dX11_fewest_209 rfl rfl ?_
        refine V_if_eq_f (tgt := 217) dX11_fewest_210 (by decide) (by decide) ?_
        refine V_iconst (v := 2) dX11_fewest_213 (by decide) (V_goto (tgt := 219) dX11_fewest_214 (by decide) ?_)
        refine V_ireturn dX11_fewest_219 rfl rfl rfl (by decide) (by decide) ?_
        exact fin _
    · rw [h1 rfl]
      refine V_iload_n dX11_fewest_201 rfl rfl ?_
      refine V_if_eq_f (tgt := 209) dX11_fewest_202 (by decide) (by decide) ?_
      refine V_iconst (v := 1) dX11_fewest_205 (by decide) (V_goto (tgt := 219) dX11_fewest_206 (by decide) ?_)
      refine V_ireturn dX11_fewest_219 rfl rfl rfl (by decide) (by decide) ?_
      exact fin _
  have key : ∀ a, a ≤ 80 → ∀ I2 J2, FrE I I2 → FJ J J2 → MB I2 K → MR I2 K → ∀ w : Bool, (one_ K a = false → w = two_ K a) → V E d M_X11_fewest (MK t len K D D1 D2 kp tl (some (.int (if oneB K = true then 1 else if twoB K = true then 2 else -4))) I J (RR co dr cc a1 a2)) 15 [some (.ref 70), some (.int (b2i (one_ K a))), some (.int (b2i w)), some (.int (nI a)), none] [] NC 0 0 I2 J2 (RR co dr cc a1 a2) := by
    refine loop_up 80 ?_ ?_
    · intro I2 J2 f2 j2 hM2 hR2 w hw
      refine V_iload_n dX11_fewest_15 rfl rfl (V_bipush (v := 80) dX11_fewest_16 (by decide) ?_)
      refine V_icmp_ge_t (tgt := 201) dX11_fewest_18 (by decide) (nI_le (a := 80) (b := 80) (by decide) (by decide)) ?_
      exact t201 _ w I2 J2 _ _ f2 j2 hM2 hR2 (fun z => by rw [← one_80 hB]; exact z) (fun z => ⟨by rw [← one_80 hB]; exact z, by rw [← two_80 hB]; exact hw z⟩)
    · intro a ha ih I2 J2 f2 j2 hM2 hR2 w hw
      cases ho : one_ K a
      · have hw := hw ho
        have next : ∀ (o w' : Bool) I3 J3 o4, FrE I I3 → FJ J J3 → MB I3 K → MR I3 K → o = one_ K (a + 1) → (one_ K (a + 1) = false → w' = two_ K (a + 1)) → V E d M_X11_fewest (MK t len K D D1 D2 kp tl (some (.int (if oneB K = true then 1 else if twoB K = true then 2 else -4))) I J (RR co dr cc a1 a2)) 195 [some (.ref 70), some (.int (b2i o)), some (.int (b2i w')), some (.int (nI a)), o4] [] NC 0 0 I3 J3 (RR co dr cc a1 a2) := by
          intro o w' I3 J3 o4 f3 j3 hM3 hR3 e1 e2
          refine V_iinc_3 (w := 1) dX11_fewest_195 (by decide) (by decide) rfl (V_goto (tgt := 15) dX11_fewest_198 (by decide) ?_)
          rw [nI_1, e1]
          exact V_forget (ih I3 J3 f3 j3 hM3 hR3 w' e2) (by simp [lessb])
        have notc : cva K a = false → V E d M_X11_fewest (MK t len K D D1 D2 kp tl (some (.int (if oneB K = true then 1 else if twoB K = true then 2 else -4))) I J (RR co dr cc a1 a2)) 195 [some (.ref 70), some (.int (b2i false)), some (.int (b2i w)), some (.int (nI a)), none] [] NC 0 0 I2 J2 (RR co dr cc a1 a2) := by
          intro hc
          refine next false w I2 J2 none f2 j2 hM2 hR2 ?_ (fun _ => ?_)
          · rw [one_succ_no (by rw [hc]; simp), ho]
          · rw [two_succ_no (by rw [hc]; simp)]; exact hw
        refine V_iload_n dX11_fewest_15 rfl rfl (V_bipush (v := 80) dX11_fewest_16 (by decide) ?_)
        refine V_icmp_ge_f (tgt := 201) dX11_fewest_18 (by decide) (nI_ge (b := 80) ha (by decide)) ?_
        refine V_iload_n dX11_fewest_21 rfl rfl ?_
        refine V_if_ne_f (tgt := 201) dX11_fewest_22 (by decide) (rfl) ?_
        refine V_aload_n dX11_fewest_25 rfl rfl (V_iload_n dX11_fewest_26 rfl rfl (V_bipush (v := 8) dX11_fewest_27 (by decide) (V_idiv dX11_fewest_29 (by decide) ?_)))
        refine V_cV1i (M' := M_X11_isPlayer) (d' := 2) dX11_fewest_30 (Or.inl ml_X11_195) kb_X11_isPlayer (by first | assumption | exact ⟨by decide, rfl⟩) (by first | decide | omega) (by simp [Value.category]) ⟨by decide, by decide⟩ ?_
        rw [div8 (by omega)]
        refine mr_isPlayer hM2.n0 hP ⟨_, rfl, ?_⟩
        rw [inR_nI (by omega)]
        by_cases c1 : a / 8 < K 0 0
        · rw [decide_eq_true c1]
          refine V_if_eq_f (tgt := 195) dX11_fewest_33 (by decide) (by decide) ?_
          refine V_aload_n dX11_fewest_36 rfl rfl (V_iload_n dX11_fewest_37 rfl rfl (V_bipush (v := 8) dX11_fewest_38 (by decide) (V_irem dX11_fewest_40 (by decide) ?_)))
          refine V_cV1i (M' := M_X11_isPart) (d' := 2) dX11_fewest_41 (Or.inl ml_X11_200) kb_X11_isPart (by first | assumption | exact ⟨by decide, rfl⟩) (by first | decide | omega) (by simp [Value.category]) ⟨by decide, by decide⟩ ?_
          rw [mod8 (by omega)]
          refine mr_isPart hM2.n1 hQ ⟨_, rfl, ?_⟩
          rw [inR_nI (by omega)]
          by_cases c2 : a % 8 < K 0 1
          · rw [decide_eq_true c2]
            refine V_if_eq_f (tgt := 195) dX11_fewest_44 (by decide) (by decide) ?_
            refine V_aload_n dX11_fewest_47 rfl rfl (V_iload_n dX11_fewest_48 rfl rfl (V_bipush (v := 8) dX11_fewest_49 (by decide) (V_idiv dX11_fewest_51 (by decide) (V_iload_n dX11_fewest_52 rfl rfl (V_bipush (v := 8) dX11_fewest_53 (by decide) ?_)))))
            refine V_irem dX11_fewest_55 (by decide) ?_
            refine V_cV2i (M' := M_X11_isCover) (d' := 2) dX11_fewest_56 (Or.inl ml_X11_293) kb_X11_isCover (by first | assumption | exact ⟨by decide, rfl⟩) (by first | decide | omega) (by simp [Value.category]) ⟨by decide, by decide⟩ ?_
            rw [mod8 (by omega), div8 (by omega)]
            refine mr_isCover hB hM2 c1 c2 ⟨_, rfl, ?_⟩
            cases hc : cva K a
            · refine V_if_eq_t (tgt := 195) dX11_fewest_59 (by decide) (rfl) ?_
              exact notc hc
            · have hBa := KB_cvK hB hc
              have hsk := (cva_in hc).2.2.2.1
              have eP : cvK K a 0 0 = K 0 0 := cvK_ne (by decide)
              have eQ : cvK K a 0 1 = K 0 1 := cvK_ne (by decide)
              refine V_if_eq_f (tgt := 195) dX11_fewest_59 (by decide) (by decide) ?_
              refine V_aload_n dX11_fewest_62 rfl rfl (V_iload_n dX11_fewest_63 rfl rfl (V_bipush (v := 8) dX11_fewest_64 (by decide) (V_idiv dX11_fewest_66 (by decide) (V_iload_n dX11_fewest_67 rfl rfl (V_bipush (v := 8) dX11_fewest_68 (by decide) ?_)))))
              refine V_irem dX11_fewest_70 (by decide) (V_iconst (v := 1) dX11_fewest_71 (by decide) ?_)
              refine V_cV3v (M' := M_X11_setCover) (d' := 4) dX11_fewest_72 (Or.inl ml_X11_296) kb_X11_setCover (by first | assumption | exact ⟨by decide, rfl⟩) (by first | decide | omega) (by simp [Value.category]) ⟨by decide, by decide⟩ ?_
              rw [mod8 (by omega), div8 (by omega)]
              refine mr_set hB hc hM2 hR2 (fun I3 f3 hM3 hR3 => ⟨rfl, ?_⟩)
              have f3' := f2.trans f3
              refine V_aload_n dX11_fewest_75 rfl rfl ?_
              refine V_cV0i (M' := M_X11_noneWeak) (d' := 5) dX11_fewest_76 (Or.inl ml_X11_300) kb_X11_noneWeak (by first | assumption | exact ⟨by decide, rfl⟩) (by first | decide | omega) (by simp [Value.category]) ⟨by decide, by decide⟩ ?_
              refine mr_noneWeak hBa hM3 hR3 (f3'.MDX hD.1) hDB (fun I4 J4 f4 j4 => ⟨_, rfl, ?_⟩)
              have f4' := f3'.trans f4.W.toE
              have j4' : FJ J J4 := j2.trans j4
              have hM4 := f4.MB hBa hM3
              have hR4 := f4.MR hR3
              -- put back
              have t182 : ∀ (o w' : Bool) I5 J5 o4, FrE I I5 → FJ J J5 → MB I5 (cvK K a) → MR I5 (cvK K a) → o = one_ K (a + 1) → (one_ K (a + 1) = false → w' = two_ K (a + 1)) → V E d M_X11_fewest (MK t len K D D1 D2 kp tl (some (.int (if oneB K = true then 1 else if twoB K = true then 2 else -4))) I J (RR co dr cc a1 a2)) 182 [some (.ref 70), some (.int (b2i o)), some (.int (b2i w')), some (.int (nI a)), o4] [] NC 0 0 I5 J5 (RR co dr cc a1 a2) := by
                intro o w' I5 J5 o4 f5 j5 hM5 hR5 e1 e2
                refine V_aload_n dX11_fewest_182 rfl rfl (V_iload_n dX11_fewest_183 rfl rfl (V_bipush (v := 8) dX11_fewest_184 (by decide) (V_idiv dX11_fewest_186 (by decide) (V_iload_n dX11_fewest_187 rfl rfl (V_bipush (v := 8) dX11_fewest_188 (by decide) ?_)))))
                refine V_irem dX11_fewest_190 (by decide) (V_iconst (v := 0) dX11_fewest_191 (by decide) ?_)
                refine V_cV3v (M' := M_X11_setCover) (d' := 4) dX11_fewest_192 (Or.inl ml_X11_296) kb_X11_setCover (by first | assumption | exact ⟨by decide, rfl⟩) (by first | decide | omega) (by simp [Value.category]) ⟨by decide, by decide⟩ ?_
                rw [mod8 (by omega), div8 (by omega)]
                refine mr_unset hB hc hM5 hR5 (fun I6 f6 hM6 hR6 => ⟨rfl, ?_⟩)
                exact next o w' I6 J5 o4 (f5.trans f6) j5 hM6 hR6 e1 e2
              refine V_istore_1 dX11_fewest_79 (by decide) rfl (V_iload_n dX11_fewest_80 rfl rfl (V_iconst (v := 1) dX11_fewest_81 (by decide) (V_iadd dX11_fewest_82 (V_istore_4 dX11_fewest_83 (by decide) rfl ?_))))
              rw [nI_1]
              by_cases hW1 : wW (cvK K a) 2 = 0
              · have eo : one_ K (a + 1) = true := dcd_t ⟨a, by omega, hc, hW1⟩
                rw [decide_eq_true hW1]
                by_cases hend : a + 1 < 80
                · refine V_iload dX11_fewest_85 rfl (V_bipush (v := 80) dX11_fewest_87 (by decide) ?_)
                  refine V_icmp_ge_f (tgt := 182) dX11_fewest_89 (by decide) (nI_ge (b := 80) hend (by decide)) ?_
                  refine V_iload_n dX11_fewest_92 rfl rfl ?_
                  refine V_if_ne_t (tgt := 182) dX11_fewest_93 (by decide) (by decide) ?_
                  exact t182 true w I4 J4 _ f4' j4' hM4 hR4 eo.symm (fun z => by rw [eo] at z; cases z)
                · refine V_iload dX11_fewest_85 rfl (V_bipush (v := 80) dX11_fewest_87 (by decide) ?_)
                  refine V_icmp_ge_t (tgt := 182) dX11_fewest_89 (by decide) (by rw [show a + 1 = 80 by omega]; exact nI_le (a := 80) (b := 80) (by decide) (by decide)) ?_
                  exact t182 true w I4 J4 _ f4' j4' hM4 hR4 eo.symm (fun z => by rw [eo] at z; cases z)
              · have eo : one_ K (a + 1) = false := by rw [one_succ_no (fun z => hW1 z.2), ho]
                rw [decide_eq_false hW1]
                -- the second cover
                have inner : ∀ b, b ≤ 80 → a < b → ∀ I5 J5, FrE I I5 → FJ J J5 → MB I5 (cvK K a) → MR I5 (cvK K a) → ∀ w' : Bool, w' = (w || twoI K a b) → V E d M_X11_fewest (MK t len K D D1 D2 kp tl (some (.int (if oneB K = true then 1 else if twoB K = true then 2 else -4))) I J (RR co dr cc a1 a2)) 85 [some (.ref 70), some (.int (b2i false)), some (.int (b2i w')), some (.int (nI a)), some (.int (nI b))] [] NC 0 0 I5 J5 (RR co dr cc a1 a2) := by
                  have wend : (w || twoI K a 80) = two_ K (a + 1) := by
                    rw [hw, Bool.eq_iff_iff, Bool.or_eq_true]
                    constructor
                    · rintro (z | z)
                      · obtain ⟨u, x, y, q⟩ := dcd_iff.mp z
                        exact dcd_t ⟨u, by omega, y, q⟩
                      · exact dcd_t ⟨a, by omega, hc, z⟩
                    · intro z
                      obtain ⟨u, x, y, q⟩ := dcd_iff.mp z
                      by_cases hu : u = a
                      · subst hu; exact Or.inr q
                      · exact Or.inl (dcd_t ⟨u, by omega, y, q⟩)
                  refine loop_up 80 ?_ ?_
                  · intro _ I5 J5 f5 j5 hM5 hR5 w' hw'
                    refine V_iload dX11_fewest_85 rfl (V_bipush (v := 80) dX11_fewest_87 (by decide) ?_)
                    refine V_icmp_ge_t (tgt := 182) dX11_fewest_89 (by decide) (nI_le (a := 80) (b := 80) (by decide) (by decide)) ?_
                    exact t182 false w' I5 J5 _ f5 j5 hM5 hR5 eo.symm (fun _ => by rw [hw']; exact wend)
                  · intro b hb ihb hab I5 J5 f5 j5 hM5 hR5 w' hw'
                    cases hww : w'
                    · subst hww
                      have skip : ∀ I6 J6 (w2 : Bool), FrE I I6 → FJ J J6 → MB I6 (cvK K a) → MR I6 (cvK K a) → w2 = (w || twoI K a (b + 1)) → V E d M_X11_fewest (MK t len K D D1 D2 kp tl (some (.int (if oneB K = true then 1 else if twoB K = true then 2 else -4))) I J (RR co dr cc a1 a2)) 176 [some (.ref 70), some (.int (b2i false)), some (.int (b2i w2)), some (.int (nI a)), some (.int (nI b))] [] NC 0 0 I6 J6 (RR co dr cc a1 a2) := by
                        intro I6 J6 w2 f6 j6 hM6 hR6 e6
                        refine V_iinc_4 (w := 1) dX11_fewest_176 (by decide) (by decide) rfl (V_goto (tgt := 85) dX11_fewest_179 (by decide) ?_)
                        rw [nI_1]
                        exact ihb (by omega) I6 J6 f6 j6 hM6 hR6 w2 e6
                      have notb : cva K b = false → V E d M_X11_fewest (MK t len K D D1 D2 kp tl (some (.int (if oneB K = true then 1 else if twoB K = true then 2 else -4))) I J (RR co dr cc a1 a2)) 176 [some (.ref 70), some (.int (b2i false)), some (.int (b2i false)), some (.int (nI a)), some (.int (nI b))] [] NC 0 0 I5 J5 (RR co dr cc a1 a2) := by
                        intro hcb
                        exact skip I5 J5 false f5 j5 hM5 hR5 (by rw [twoI_succ_no (by rw [hcb]; simp)]; exact hw')
                      refine V_iload dX11_fewest_85 rfl (V_bipush (v := 80) dX11_fewest_87 (by decide) ?_)
                      refine V_icmp_ge_f (tgt := 182) dX11_fewest_89 (by decide) (nI_ge (b := 80) hb (by decide)) ?_
                      refine V_iload_n dX11_fewest_92 rfl rfl ?_
                      refine V_if_ne_f (tgt := 182) dX11_fewest_93 (by decide) (rfl) ?_
                      refine V_iload_n dX11_fewest_96 rfl rfl ?_
                      refine V_if_ne_f (tgt := 182) dX11_fewest_97 (by decide) (rfl) ?_
                      refine V_aload_n dX11_fewest_100 rfl rfl (V_iload dX11_fewest_101 rfl (V_bipush (v := 8) dX11_fewest_103 (by decide) (V_idiv dX11_fewest_105 (by decide) ?_)))
                      refine V_cV1i (M' := M_X11_isPlayer) (d' := 2) dX11_fewest_106 (Or.inl ml_X11_195) kb_X11_isPlayer (by first | assumption | exact ⟨by decide, rfl⟩) (by first | decide | omega) (by simp [Value.category]) ⟨by decide, by decide⟩ ?_
                      rw [div8 (by omega)]
                      refine mr_isPlayer (K := cvK K a) hM5.n0 (by rw [eP]; exact hP) ⟨_, rfl, ?_⟩
                      rw [eP, inR_nI (by omega)]
                      by_cases d1 : b / 8 < K 0 0
                      · rw [decide_eq_true d1]
                        refine V_if_eq_f (tgt := 176) dX11_fewest_109 (by decide) (by decide) ?_
                        refine V_aload_n dX11_fewest_112 rfl rfl (V_iload dX11_fewest_113 rfl (V_bipush (v := 8) dX11_fewest_115 (by decide) (V_irem dX11_fewest_117 (by decide) ?_)))
                        refine V_cV1i (M' := M_X11_isPart) (d' := 2) dX11_fewest_118 (Or.inl ml_X11_200) kb_X11_isPart (by first | assumption | exact ⟨by decide, rfl⟩) (by first | decide | omega) (by simp [Value.category]) ⟨by decide, by decide⟩ ?_
                        rw [mod8 (by omega)]
                        refine mr_isPart (K := cvK K a) hM5.n1 (by rw [eQ]; exact hQ) ⟨_, rfl, ?_⟩
                        rw [eQ, inR_nI (by omega)]
                        by_cases d2 : b % 8 < K 0 1
                        · rw [decide_eq_true d2]
                          refine V_if_eq_f (tgt := 176) dX11_fewest_121 (by decide) (by decide) ?_
                          refine V_aload_n dX11_fewest_124 rfl rfl (V_iload dX11_fewest_125 rfl (V_bipush (v := 8) dX11_fewest_127 (by decide) (V_idiv dX11_fewest_129 (by decide) (V_iload dX11_fewest_130 rfl (V_bipush (v := 8) dX11_fewest_132 (by decide) ?_)))))
                          refine V_irem dX11_fewest_134 (by decide) ?_
                          refine V_cV2i (M' := M_X11_isCover) (d' := 2) dX11_fewest_135 (Or.inl ml_X11_293) kb_X11_isCover (by first | assumption | exact ⟨by decide, rfl⟩) (by first | decide | omega) (by simp [Value.category]) ⟨by decide, by decide⟩ ?_
                          rw [mod8 (by omega), div8 (by omega)]
                          refine mr_isCover hBa hM5 (by rw [eP]; exact d1) (by rw [eQ]; exact d2) ⟨_, rfl, ?_⟩
                          have ecb : cva (cvK K a) b = cva K b := cva_cvK hsk (by omega)
                          cases hcb : cva (cvK K a) b
                          · refine V_if_eq_t (tgt := 176) dX11_fewest_138 (by decide) (rfl) ?_
                            exact notb (by rw [← ecb]; exact hcb)
                          · have hBb := KB_cvK hBa hcb
                            refine V_if_eq_f (tgt := 176) dX11_fewest_138 (by decide) (by decide) ?_
                            refine V_aload_n dX11_fewest_141 rfl rfl (V_iload dX11_fewest_142 rfl (V_bipush (v := 8) dX11_fewest_144 (by decide) (V_idiv dX11_fewest_146 (by decide) (V_iload dX11_fewest_147 rfl (V_bipush (v := 8) dX11_fewest_149 (by decide) ?_)))))
                            refine V_irem dX11_fewest_151 (by decide) (V_iconst (v := 1) dX11_fewest_152 (by decide) ?_)
                            refine V_cV3v (M' := M_X11_setCover) (d' := 4) dX11_fewest_153 (Or.inl ml_X11_296) kb_X11_setCover (by first | assumption | exact ⟨by decide, rfl⟩) (by first | decide | omega) (by simp [Value.category]) ⟨by decide, by decide⟩ ?_
                            rw [mod8 (by omega), div8 (by omega)]
                            refine mr_set hBa hcb hM5 hR5 (fun I6 f6 hM6 hR6 => ⟨rfl, ?_⟩)
                            have f6' := f5.trans f6
                            refine V_aload_n dX11_fewest_156 rfl rfl ?_
                            refine V_cV0i (M' := M_X11_noneWeak) (d' := 5) dX11_fewest_157 (Or.inl ml_X11_300) kb_X11_noneWeak (by first | assumption | exact ⟨by decide, rfl⟩) (by first | decide | omega) (by simp [Value.category]) ⟨by decide, by decide⟩ ?_
                            refine mr_noneWeak hBb hM6 hR6 (f6'.MDX hD.1) hDB (fun I7 J7 f7 j7 => ⟨_, rfl, ?_⟩)
                            have f7' := f6'.trans f7.W.toE
                            have j7' : FJ J J7 := j5.trans j7
                            refine V_istore_2 dX11_fewest_160 (by decide) rfl (V_aload_n dX11_fewest_161 rfl rfl (V_iload dX11_fewest_162 rfl (V_bipush (v := 8) dX11_fewest_164 (by decide) (V_idiv dX11_fewest_166 (by decide) (V_iload dX11_fewest_167 rfl ?_)))))
                            refine V_bipush (v := 8) dX11_fewest_169 (by decide) (V_irem dX11_fewest_171 (by decide) (V_iconst (v := 0) dX11_fewest_172 (by decide) ?_))
                            refine V_cV3v (M' := M_X11_setCover) (d' := 4) dX11_fewest_173 (Or.inl ml_X11_296) kb_X11_setCover (by first | assumption | exact ⟨by decide, rfl⟩) (by first | decide | omega) (by simp [Value.category]) ⟨by decide, by decide⟩ ?_
                            rw [mod8 (by omega), div8 (by omega)]
                            refine mr_unset hBa hcb (f7.MB hBb hM6) (f7.MR hR6) (fun I8 f8 hM8 hR8 => ⟨rfl, ?_⟩)
                            refine skip I8 J7 _ (f7'.trans f8) j7' hM8 hR8 ?_
                            by_cases hW2 : wW (cvK (cvK K a) b) 2 = 0
                            · have : twoI K a (b + 1) = true := dcd_t ⟨b, hab, by omega, by rw [← ecb]; exact hcb, hW2⟩
                              rw [decide_eq_true hW2, this]; simp
                            · rw [decide_eq_false hW2, twoI_succ_no (fun z => hW2 z.2)]; exact hw'
                        · rw [decide_eq_false d2]
                          refine V_if_eq_t (tgt := 176) dX11_fewest_121 (by decide) (rfl) ?_
                          refine notb ?_
                          unfold cva cvb
                          rw [decide_eq_false d2]; simp
                      · rw [decide_eq_false d1]
                        refine V_if_eq_t (tgt := 176) dX11_fewest_109 (by decide) (rfl) ?_
                        refine notb ?_
                        unfold cva
                        rw [decide_eq_false (by omega)]; rfl
                    · subst hww
                      refine V_iload dX11_fewest_85 rfl (V_bipush (v := 80) dX11_fewest_87 (by decide) ?_)
                      refine V_icmp_ge_f (tgt := 182) dX11_fewest_89 (by decide) (nI_ge (b := 80) hb (by decide)) ?_
                      refine V_iload_n dX11_fewest_92 rfl rfl ?_
                      refine V_if_ne_f (tgt := 182) dX11_fewest_93 (by decide) (rfl) ?_
                      refine V_iload_n dX11_fewest_96 rfl rfl ?_
                      refine V_if_ne_t (tgt := 182) dX11_fewest_97 (by decide) (by decide) ?_
                      refine t182 false true I5 J5 _ f5 j5 hM5 hR5 eo.symm (fun _ => ?_)
                      rw [← wend]
                      rcases (Bool.or_eq_true _ _).mp hw'.symm with z | z
                      · rw [z]; rfl
                      · rw [twoI_mono (by omega) z]; simp
                have h0 : twoI K a (a + 1) = false := dcd_f (fun ⟨v, x, y, _⟩ => by omega)
                exact inner (a + 1) (by omega) (by omega) I4 J4 f4' j4' hM4 hR4 w (by rw [h0]; simp)
          · rw [decide_eq_false c2]
            refine V_if_eq_t (tgt := 195) dX11_fewest_44 (by decide) (rfl) ?_
            refine notc ?_
            unfold cva cvb
            rw [decide_eq_false c2]; simp
        · rw [decide_eq_false c1]
          refine V_if_eq_t (tgt := 195) dX11_fewest_33 (by decide) (rfl) ?_
          refine notc ?_
          unfold cva
          rw [decide_eq_false (by omega)]; rfl
      · have ho2 : oneB K = true := by
          obtain ⟨u, x, y, z⟩ := dcd_iff.mp ho
          exact oneB_iff.mpr ⟨u, y, z⟩
        refine V_iload_n dX11_fewest_15 rfl rfl (V_bipush (v := 80) dX11_fewest_16 (by decide) ?_)
        refine V_icmp_ge_f (tgt := 201) dX11_fewest_18 (by decide) (nI_ge (b := 80) ha (by decide)) ?_
        refine V_iload_n dX11_fewest_21 rfl rfl ?_
        refine V_if_ne_t (tgt := 201) dX11_fewest_22 (by decide) (by decide) ?_
        exact t201 true w I2 J2 _ _ f2 j2 hM2 hR2 (fun _ => ho2) (fun z => by cases z)
  have h1z : one_ K 0 = false := dcd_f (fun ⟨u, x, _⟩ => by omega)
  have h2z : two_ K 0 = false := dcd_f (fun ⟨u, x, _⟩ => by omega)
  have h9 := key 0 (Nat.zero_le _) I1 J1 f1e j1 hM1 hR1 false (fun _ => h2z.symm)
  rw [h1z] at h9
  exact h9
end
