/-! The reference lays a company -/
def lyA1 (I : TI) : TI := fun x y => if (x = 72 ∨ x = 75 ∨ x = 81 ∨ x = 84) ∧ y = 0 then I x 1 else I x y
def lyA2 (I : TI) : TI := fun x y => if (x = 73 ∨ x = 74 ∨ x = 85 ∨ x = 82 ∨ x = 83) ∧ y < 10 then I x (10 + y) else lyA1 I x y
def lyA3 (I : TI) : TI := fun x y => if (x = 76 ∨ x = 77 ∨ x = 78 ∨ x = 79 ∨ x = 80) ∧ y < 8 then I x (8 + y) else lyA2 I x y
def lyA4 (I : TI) : TI := fun x y => if x = 86 ∧ y < 100 then I x (100 + y) else lyA3 I x y
def lyA5 (I : TI) : TI := fun x y => if x = 87 ∧ y < 5 then I x (5 + y) else lyA4 I x y
def lyA6 (I : TI) : TI := fun x y => if x = 88 ∧ y < 80 then 0 else lyA5 I x y
def lyA7 (I : TI) : TI := fun x y => if (x = 90 ∨ x = 91) ∧ y < 10 then 0 else lyA6 I x y
theorem rdF_le (t : Nat → Nat) (len : Nat) : ∀ f (K : KT) k j, k ≤ len → (rdF t len f K k).1 = some j → j ≤ len
  | 0, K, k, j, hk, h => by
    unfold rdF at h
    cases h
    exact hk
  | f + 1, K, k, j, hk, h => by
    by_cases hl : k < len
    · cases hr : rif t len (cnt (t k)) (t k) K (k + 1) with
      | none => rw [rdF_none hl hr] at h; cases h; exact hk
      | some q =>
        obtain ⟨p, K'⟩ := q
        obtain ⟨e1, e2, e3, e4⟩ := rdF_some (f := f) hl hr
        rw [e1] at h
        exact rdF_le t len f K' p j e3 h
    · rw [rdF_end (by omega)] at h
      cases h
theorem MB_of_lay {I1 I' : TI} {K' : KT} (hB : KB K') (hX : M1 I1 K') (h : ∀ x y, 72 ≤ x → x ≤ 87 → I' x y = lyA5 I1 x y) : MB I' K' := by
  have hP := hB.1.1
  have hQ := hB.1.2.1
  have hS := hB.1.2.2.1
  obtain ⟨a1, a2, a3, a4, b1, b2, b3, b4, b5, d1, d2, e, f1, f2, f3, f4, g, k1, k2, l⟩ := hX
  refine ⟨⟨?_, ?_, ?_, ?_⟩, ⟨?_, ?_, ?_, ?_, ?_⟩, fun p hp => ⟨?_, ?_⟩, fun p hp => ?_, fun i hi => ⟨?_, ?_, ?_, ?_⟩, fun i hi => ?_, fun s hs => ⟨?_, ?_⟩, fun j hj => ?_⟩ <;> rw [h _ _ (by omega) (by omega)]
  · simp [lyA5, lyA4, lyA3, lyA2, lyA1, a1]
  · simp [lyA5, lyA4, lyA3, lyA2, lyA1, a2]
  · simp [lyA5, lyA4, lyA3, lyA2, lyA1, a3]
  · simp [lyA5, lyA4, lyA3, lyA2, lyA1, a4]
  · simp [lyA5, b1]
  · simp [lyA5, b2]
  · simp [lyA5, b3]
  · simp [lyA5, b4]
  · simp [lyA5, b5]
  · simp [lyA5, lyA4, lyA3, lyA2, show p < 10 by omega, d1 p hp]
  · simp [lyA5, lyA4, lyA3, lyA2, show p < 10 by omega, d2 p hp]
  · simp [lyA5, lyA4, lyA3, lyA2, show p < 10 by omega, e p hp]
  · simp [lyA5, lyA4, lyA3, show i < 8 by omega, f1 i hi]
  · simp [lyA5, lyA4, lyA3, show i < 8 by omega, f2 i hi]
  · simp [lyA5, lyA4, lyA3, show i < 8 by omega, f3 i hi]
  · simp [lyA5, lyA4, lyA3, show i < 8 by omega, f4 i hi]
  · simp [lyA5, lyA4, lyA3, show i < 8 by omega, g i hi]
  · simp [lyA5, lyA4, lyA3, lyA2, show s < 10 by omega, k1 s hs]
  · simp [lyA5, lyA4, lyA3, lyA2, show s < 10 by omega, k2 s hs]
  · simp [lyA5, lyA4, hj, l j hj]
section
variable {E : En} {I : TI} {J : TJ} {co dr : Nat} {cc a1 a2 : Option Nat} {Post : PT} {t : Nat → Nat} {len : Nat} {K : KT} {D D1 D2 : Di} {kp : Nat} {tl : Nat → Int32} {d : Nat}
theorem rop_lay (hd : 6 ≤ d) (h : MS t len K D D1 D2 kp tl I) : Cal E d M_X11_lay [.ref 70] NC I J (RR co dr cc a1 a2) (MK t len (lyK t len K) (lyD t len D) D1 D2 (lyN t len kp) (lyT t len tl) (some (.int (a_lay t len))) I J (RR co dr cc a1 a2)) := by
  have hl := h.2.2.2.1.1
  refine Cal_of kn_X11_lay rfl (Nat.le_of_ble_eq_true rfl) ?_
  refine V_aload_n dX11_lay_0 rfl rfl ?_
  refine V_cV0i (M' := M_X11_readAll) (d' := 5) dX11_lay_1 (Or.inl ml_X11_176) kb_X11_readAll (by first | assumption | exact ⟨by decide, rfl⟩) (by first | decide | omega) (by simp [Value.category]) ⟨by decide, by decide⟩ ?_
  refine mr_readAll h.2.2.2.1 (fun I1 g1 g2 g3 => ⟨_, rfl, ?_⟩)
  have h1 := h.fr1 g1
  have hlo : ∀ x y, x < 70 → I1 x y = I x y := fun x y a => g1 x y (by omega) (by omega) (by omega)
  have hle := rdF_le t len (len + 1) K0 0
  have fin : lyOk t len = false → MK t len (lyK t len K) (lyD t len D) D1 D2 (lyN t len kp) (lyT t len tl) (some (.int (a_lay t len))) I J (RR co dr cc a1 a2) (some (.int (-2))) NC I1 J (RR co dr cc a1 a2) := by
    intro hz
    rw [lyK, lyD, lyN, lyT, a_lay, hz]
    exact ⟨rfl, rfl, rfl, h1, hlo, fun _ _ _ => rfl⟩
  have hok : lyOk t len = true → lyK t len K = (rdF t len (len + 1) K0 0).2 ∧ lyD t len D = D0 ∧ lyN t len kp = 0 ∧ lyT t len tl = (fun _ => 0) ∧ a_lay t len = nI ((rdF t len (len + 1) K0 0).2 0 0) := by
    intro hz
    rw [lyK, lyD, lyN, lyT, a_lay, hz]
    exact ⟨rfl, rfl, rfl, rfl, rfl⟩
  have hdec : lyOk t len = decide ((rdF t len (len + 1) K0 0).1 = none ∧ (rdF t len (len + 1) K0 0).2 0 0 ≠ 0 ∧ (rdF t len (len + 1) K0 0).2 0 1 ≠ 0) := rfl
  generalize rdF t len (len + 1) K0 0 = rr at *
  obtain ⟨r, K'⟩ := rr
  have hPc : K' 0 0 ≤ 10 := g2.1.1
  have hQc : K' 0 1 ≤ 8 := g2.1.2.1
  cases r with
  | some j =>
    have hj := hle j (by omega) rfl
    refine V_bipush (v := (-4)) dX11_lay_4 (by decide) ?_
    refine V_icmp_ne_t (tgt := 27) dX11_lay_6 (by decide) (nI_ne4 (by omega)) ?_
    refine V_bipush (v := (-2)) dX11_lay_27 (by decide) ?_
    refine V_ireturn dX11_lay_29 rfl rfl rfl (by decide) (by decide) ?_
    exact fin (by rw [hdec]; simp)
  | none =>
    have hX : M1 I1 K' := g3 rfl
    by_cases c1 : K' 0 0 = 0
    · refine V_bipush (v := (-4)) dX11_lay_4 (by decide) ?_
      refine V_icmp_ne_f (tgt := 27) dX11_lay_6 (by decide) (rfl) ?_
      refine V_aload_n dX11_lay_9 rfl rfl ?_
      refine V_getR dX11_lay_10 fl_X11_13 (by first | assumption | exact ⟨by decide, rfl⟩) (by first | assumption | rfl) ?_
      refine V_iconst (v := 1) dX11_lay_13 (by decide) ?_
      refine V_ial dX11_lay_14 (by first | assumption | exact ⟨by decide, rfl⟩) (show ix _ 1 _ from ⟨rfl, by decide⟩) ?_
      refine V_if_eq_t (tgt := 27) dX11_lay_15 (by decide) (by rw [hX.1, c1]; rfl) ?_
      refine V_bipush (v := (-2)) dX11_lay_27 (by decide) ?_
      refine V_ireturn dX11_lay_29 rfl rfl rfl (by decide) (by decide) ?_
      exact fin (by rw [hdec]; simp [c1])
    by_cases c2 : K' 0 1 = 0
    · refine V_bipush (v := (-4)) dX11_lay_4 (by decide) ?_
      refine V_icmp_ne_f (tgt := 27) dX11_lay_6 (by decide) (rfl) ?_
      refine V_aload_n dX11_lay_9 rfl rfl ?_
      refine V_getR dX11_lay_10 fl_X11_13 (by first | assumption | exact ⟨by decide, rfl⟩) (by first | assumption | rfl) ?_
      refine V_iconst (v := 1) dX11_lay_13 (by decide) ?_
      refine V_ial dX11_lay_14 (by first | assumption | exact ⟨by decide, rfl⟩) (show ix _ 1 _ from ⟨rfl, by decide⟩) ?_
      refine V_if_eq_f (tgt := 27) dX11_lay_15 (by decide) (by rw [hX.1, ← nI_0]; exact fun z => c1 ((nI_eq (by omega) (by omega)).mp z)) ?_
      refine V_aload_n dX11_lay_18 rfl rfl ?_
      refine V_getR dX11_lay_19 fl_X11_22 (by first | assumption | exact ⟨by decide, rfl⟩) (by first | assumption | rfl) ?_
      refine V_iconst (v := 1) dX11_lay_22 (by decide) ?_
      refine V_ial dX11_lay_23 (by first | assumption | exact ⟨by decide, rfl⟩) (show ix _ 1 _ from ⟨rfl, by decide⟩) ?_
      refine V_if_ne_f (tgt := 30) dX11_lay_24 (by decide) (by rw [hX.2.1, c2]; rfl) ?_
      refine V_bipush (v := (-2)) dX11_lay_27 (by decide) ?_
      refine V_ireturn dX11_lay_29 rfl rfl rfl (by decide) (by decide) ?_
      exact fin (by rw [hdec]; simp [c2])
    obtain ⟨o1, o2, o3, o4, o5⟩ := hok (by rw [hdec]; simp [c1, c2])
    have L6 : ∀ k, k ≤ 10 → ∀ I2, (∀ x y, I2 x y = if (x = 90 ∨ x = 91) ∧ y < k then 0 else lyA6 I1 x y) → V E d M_X11_lay (MK t len (lyK t len K) (lyD t len D) D1 D2 (lyN t len kp) (lyT t len tl) (some (.int (a_lay t len))) I J (RR co dr cc a1 a2)) 335 [some (.ref 70), some (.int (nI k))] [] NC 0 0 I2 J (RR co dr cc a1 a2) := by
      refine loop_up 10 ?_ ?_
      · intro I2 h2
        have h2 : ∀ x y, I2 x y = lyA7 I1 x y := h2
        refine V_iload_n dX11_lay_335 rfl rfl (V_bipush (v := 10) dX11_lay_336 (by decide) ?_)
        refine V_icmp_ge_t (tgt := 361) dX11_lay_338 (by decide) (nI_le (a := 10) (b := 10) (by decide) (by decide)) ?_
        refine V_aload_n dX11_lay_361 rfl rfl ?_
        refine V_getR dX11_lay_362 fl_X11_64 (by first | assumption | exact ⟨by decide, rfl⟩) (by first | assumption | rfl) ?_
        refine V_iconst (v := 0) dX11_lay_365 (by decide) (V_iconst (v := 0) dX11_lay_366 (by decide) ?_)
        refine V_ias dX11_lay_367 (by first | assumption | exact ⟨by decide, rfl⟩) (show ix _ 0 _ from ⟨rfl, by decide⟩) ?_
        refine V_aload_n dX11_lay_368 rfl rfl (V_iconst (v := 0) dX11_lay_369 (by decide) ?_)
        refine V_putI dX11_lay_370 fl_X11_180 (by first | assumption | exact ⟨by decide, rfl⟩) ?_
        refine V_aload_n dX11_lay_373 rfl rfl ?_
        refine V_cV0v (M' := M_X11_layRules) (d' := 4) dX11_lay_374 (Or.inl ml_X11_119) kb_X11_layRules (by first | assumption | exact ⟨by decide, rfl⟩) (by first | decide | omega) (by simp [Value.category]) ⟨by decide, by decide⟩ ?_
        have hM : MB (up2 (up2 I2 89 0 0) 70 22 0) K' := MB_of_lay g2 hX (fun x y a b => by rw [u2n (by omega), u2n (by omega), h2, lyA7, if_neg (by omega), lyA6, if_neg (by omega)])
        have hsame : ∀ x y, (x ≤ 71 ∨ 92 ≤ x) → (x ≠ 70 ∨ y ≠ 22) → up2 (up2 I2 89 0 0) 70 22 0 x y = I1 x y := fun x y a b => by
          rw [u2n (by omega), u2n (by omega), h2, lyA7, if_neg (by omega), lyA6, if_neg (by omega), lyA5, if_neg (by omega), lyA4, if_neg (by omega), lyA3, if_neg (by omega), lyA2, if_neg (by omega), lyA1, if_neg (by omega)]
        refine mr_layRules g2 hM (fun I3 k1 k2 => ⟨rfl, ?_⟩)
        have hM3 : MB I3 K' := hM.all g2 (fun x y a b => k1 x y (by omega) (by omega))
        refine V_aload_n dX11_lay_377 rfl rfl ?_
        refine V_getR dX11_lay_378 fl_X11_13 (by first | assumption | exact ⟨by decide, rfl⟩) (by first | assumption | rfl) ?_
        refine V_iconst (v := 0) dX11_lay_381 (by decide) ?_
        refine V_ial dX11_lay_382 (by first | assumption | exact ⟨by decide, rfl⟩) (show ix _ 0 _ from ⟨rfl, by decide⟩) ?_
        refine V_ireturn dX11_lay_383 rfl rfl rfl (by decide) (by decide) ?_
        rw [hM3.n0, o1, o2, o3, o4, o5]
        refine ⟨rfl, rfl, rfl, ⟨g2, hM3, k2, h1.2.2.2.1.of (fun y => by rw [k1 _ _ (by omega) (by omega), hsame _ _ (by omega) (by omega)]) (by rw [k1 _ _ (by omega) (by omega), hsame _ _ (by omega) (by omega)]), ⟨MDX.mk0 ?_ (fun j hj => ?_) (fun p hp => ?_), fun z => absurd z (by omega), fun z => absurd z (by omega), ?_, fun p hp => ?_⟩⟩, fun x y a => by rw [k1 _ _ (by omega) (by omega), hsame _ _ (by omega) (by omega)]; exact hlo x y a, fun _ _ _ => rfl⟩
        · rw [k1 _ _ (by omega) (by omega), u2n (by omega), u2e]; rfl
        · rw [k1 _ _ (by omega) (by omega), u2n (by omega), u2n (by omega), h2, lyA7, if_neg (by omega), lyA6, if_pos ⟨rfl, hj⟩]; rfl
        · rw [k1 _ _ (by omega) (by omega), u2n (by omega), u2n (by omega), h2, lyA7, if_pos ⟨Or.inl rfl, hp⟩]; rfl
        · rw [k1 _ _ (by omega) (by omega), u2e]; rfl
        · rw [k1 _ _ (by omega) (by omega), u2n (by omega), u2n (by omega), h2, lyA7, if_pos ⟨Or.inr rfl, hp⟩]
      · intro k hk ih I2 h2
        refine V_iload_n dX11_lay_335 rfl rfl (V_bipush (v := 10) dX11_lay_336 (by decide) ?_)
        refine V_icmp_ge_f (tgt := 361) dX11_lay_338 (by decide) (nI_ge (b := 10) hk (by decide)) ?_
        refine V_aload_n dX11_lay_341 rfl rfl ?_
        refine V_getR dX11_lay_342 fl_X11_67 (by first | assumption | exact ⟨by decide, rfl⟩) (by first | assumption | rfl) ?_
        refine V_iload_n dX11_lay_345 rfl rfl (V_iconst (v := 0) dX11_lay_346 (by decide) ?_)
        refine V_ias dX11_lay_347 (by first | assumption | exact ⟨by decide, rfl⟩) (show ix _ k 30 from ⟨rfl, by omega⟩) ?_
        refine V_aload_n dX11_lay_348 rfl rfl ?_
        refine V_getR dX11_lay_349 fl_X11_70 (by first | assumption | exact ⟨by decide, rfl⟩) (by first | assumption | rfl) ?_
        refine V_iload_n dX11_lay_352 rfl rfl (V_iconst (v := 0) dX11_lay_353 (by decide) ?_)
        refine V_ias dX11_lay_354 (by first | assumption | exact ⟨by decide, rfl⟩) (show ix _ k 10 from ⟨rfl, by omega⟩) ?_
        refine V_iinc_1 (w := 1) dX11_lay_355 (by decide) (by decide) rfl (V_goto (tgt := 335) dX11_lay_358 (by decide) ?_)
        rw [nI_1]
        refine ih _ (fun x y => ?_)
        by_cases hx : x = 91 ∧ y = k
        · rw [hx.1, hx.2, u2e, if_pos (by omega)]
        · rw [u2n (by omega)]
          by_cases hx' : x = 90 ∧ y = k
          · rw [hx'.1, hx'.2, u2e, if_pos (by omega)]
          · rw [u2n (by omega), h2]
            by_cases hx2 : (x = 90 ∨ x = 91) ∧ y < k
            · rw [if_pos hx2, if_pos (by omega)]
            · rw [if_neg hx2, if_neg (by omega)]
    have L5 : ∀ k, k ≤ 80 → ∀ I2, (∀ x y, I2 x y = if x = 88 ∧ y < k then 0 else lyA5 I1 x y) → V E d M_X11_lay (MK t len (lyK t len K) (lyD t len D) D1 D2 (lyN t len kp) (lyT t len tl) (some (.int (a_lay t len))) I J (RR co dr cc a1 a2)) 314 [some (.ref 70), some (.int (nI k))] [] NC 0 0 I2 J (RR co dr cc a1 a2) := by
      refine loop_up 80 ?_ ?_
      · intro I2 h2
        refine V_iload_n dX11_lay_314 rfl rfl (V_bipush (v := 80) dX11_lay_315 (by decide) ?_)
        refine V_icmp_ge_t (tgt := 333) dX11_lay_317 (by decide) (nI_le (a := 80) (b := 80) (by decide) (by decide)) ?_
        refine V_iconst (v := 0) dX11_lay_333 (by decide) (V_istore_1 dX11_lay_334 (by decide) rfl ?_)
        exact L6 0 (by omega) I2 (fun x y => by rw [if_neg (by omega)]; exact h2 x y)
      · intro k hk ih I2 h2
        refine V_iload_n dX11_lay_314 rfl rfl (V_bipush (v := 80) dX11_lay_315 (by decide) ?_)
        refine V_icmp_ge_f (tgt := 333) dX11_lay_317 (by decide) (nI_ge (b := 80) hk (by decide)) ?_
        refine V_aload_n dX11_lay_320 rfl rfl ?_
        refine V_getR dX11_lay_321 fl_X11_61 (by first | assumption | exact ⟨by decide, rfl⟩) (by first | assumption | rfl) ?_
        refine V_iload_n dX11_lay_324 rfl rfl (V_iconst (v := 0) dX11_lay_325 (by decide) ?_)
        refine V_ias dX11_lay_326 (by first | assumption | exact ⟨by decide, rfl⟩) (show ix _ k 240 from ⟨rfl, by omega⟩) ?_
        refine V_iinc_1 (w := 1) dX11_lay_327 (by decide) (by decide) rfl (V_goto (tgt := 314) dX11_lay_330 (by decide) ?_)
        rw [nI_1]
        refine ih _ (fun x y => ?_)
        by_cases hx : x = 88 ∧ y = k
        · rw [hx.1, hx.2, u2e, if_pos (by omega)]
        · rw [u2n (by omega), h2]
          by_cases hx2 : x = 88 ∧ y < k
          · rw [if_pos hx2, if_pos (by omega)]
          · rw [if_neg hx2, if_neg (by omega)]
    have L4 : ∀ k, k ≤ 5 → ∀ I2, (∀ x y, I2 x y = if x = 87 ∧ y < k then I1 x (5 + y) else lyA4 I1 x y) → V E d M_X11_lay (MK t len (lyK t len K) (lyD t len D) D1 D2 (lyN t len kp) (lyT t len tl) (some (.int (a_lay t len))) I J (RR co dr cc a1 a2)) 287 [some (.ref 70), some (.int (nI k))] [] NC 0 0 I2 J (RR co dr cc a1 a2) := by
      refine loop_up 5 ?_ ?_
      · intro I2 h2
        refine V_iload_n dX11_lay_287 rfl rfl (V_iconst (v := 5) dX11_lay_288 (by decide) ?_)
        refine V_icmp_ge_t (tgt := 312) dX11_lay_289 (by decide) (nI_le (a := 5) (b := 5) (by decide) (by decide)) ?_
        refine V_iconst (v := 0) dX11_lay_312 (by decide) (V_istore_1 dX11_lay_313 (by decide) rfl ?_)
        exact L5 0 (by omega) I2 (fun x y => by rw [if_neg (by omega)]; exact h2 x y)
      · intro k hk ih I2 h2
        have i0 : lyA4 I1 87 (5 + k) = I1 87 (5 + k) := by simp [lyA1, lyA2, lyA3, lyA4, lyA5, lyA6]
        refine V_iload_n dX11_lay_287 rfl rfl (V_iconst (v := 5) dX11_lay_288 (by decide) ?_)
        refine V_icmp_ge_f (tgt := 312) dX11_lay_289 (by decide) (nI_ge (b := 5) hk (by decide)) ?_
        refine V_aload_n dX11_lay_292 rfl rfl ?_
        refine V_getR dX11_lay_293 fl_X11_58 (by first | assumption | exact ⟨by decide, rfl⟩) (by first | assumption | rfl) ?_
        refine V_iload_n dX11_lay_296 rfl rfl (V_aload_n dX11_lay_297 rfl rfl ?_)
        refine V_getR dX11_lay_298 fl_X11_58 (by first | assumption | exact ⟨by decide, rfl⟩) (by first | assumption | rfl) ?_
        refine V_iconst (v := 5) dX11_lay_301 (by decide) (V_iload_n dX11_lay_302 rfl rfl (V_iadd dX11_lay_303 ?_))
        refine V_ial dX11_lay_304 (by first | assumption | exact ⟨by decide, rfl⟩) (show ix _ (5 + k) 10 from ixa (a := 5) (by omega)) ?_
        refine V_ias dX11_lay_305 (by first | assumption | exact ⟨by decide, rfl⟩) (show ix _ k 10 from ⟨rfl, by omega⟩) ?_
        refine V_iinc_1 (w := 1) dX11_lay_306 (by decide) (by decide) rfl (V_goto (tgt := 287) dX11_lay_309 (by decide) ?_)
        rw [nI_1]
        refine ih _ (fun x y => ?_)
        by_cases hx : x = 87 ∧ y = k
        · rw [hx.1, hx.2, u2e, if_pos (by omega), h2, if_neg (by omega)]; exact i0
        · rw [u2n (by omega), h2]
          by_cases hx2 : x = 87 ∧ y < k
          · rw [if_pos hx2, if_pos (by omega)]
          · rw [if_neg hx2, if_neg (by omega)]
    have L3 : ∀ k, k ≤ 100 → ∀ I2, (∀ x y, I2 x y = if x = 86 ∧ y < k then I1 x (100 + y) else lyA3 I1 x y) → V E d M_X11_lay (MK t len (lyK t len K) (lyD t len D) D1 D2 (lyN t len kp) (lyT t len tl) (some (.int (a_lay t len))) I J (RR co dr cc a1 a2)) 258 [some (.ref 70), some (.int (nI k))] [] NC 0 0 I2 J (RR co dr cc a1 a2) := by
      refine loop_up 100 ?_ ?_
      · intro I2 h2
        refine V_iload_n dX11_lay_258 rfl rfl (V_bipush (v := 100) dX11_lay_259 (by decide) ?_)
        refine V_icmp_ge_t (tgt := 285) dX11_lay_261 (by decide) (nI_le (a := 100) (b := 100) (by decide) (by decide)) ?_
        refine V_iconst (v := 0) dX11_lay_285 (by decide) (V_istore_1 dX11_lay_286 (by decide) rfl ?_)
        exact L4 0 (by omega) I2 (fun x y => by rw [if_neg (by omega)]; exact h2 x y)
      · intro k hk ih I2 h2
        have i0 : lyA3 I1 86 (100 + k) = I1 86 (100 + k) := by simp [lyA1, lyA2, lyA3, lyA4, lyA5, lyA6]
        refine V_iload_n dX11_lay_258 rfl rfl (V_bipush (v := 100) dX11_lay_259 (by decide) ?_)
        refine V_icmp_ge_f (tgt := 285) dX11_lay_261 (by decide) (nI_ge (b := 100) hk (by decide)) ?_
        refine V_aload_n dX11_lay_264 rfl rfl ?_
        refine V_getR dX11_lay_265 fl_X11_55 (by first | assumption | exact ⟨by decide, rfl⟩) (by first | assumption | rfl) ?_
        refine V_iload_n dX11_lay_268 rfl rfl (V_aload_n dX11_lay_269 rfl rfl ?_)
        refine V_getR dX11_lay_270 fl_X11_55 (by first | assumption | exact ⟨by decide, rfl⟩) (by first | assumption | rfl) ?_
        refine V_bipush (v := 100) dX11_lay_273 (by decide) (V_iload_n dX11_lay_275 rfl rfl (V_iadd dX11_lay_276 ?_))
        refine V_ial dX11_lay_277 (by first | assumption | exact ⟨by decide, rfl⟩) (show ix _ (100 + k) 200 from ixa (a := 100) (by omega)) ?_
        refine V_ias dX11_lay_278 (by first | assumption | exact ⟨by decide, rfl⟩) (show ix _ k 200 from ⟨rfl, by omega⟩) ?_
        refine V_iinc_1 (w := 1) dX11_lay_279 (by decide) (by decide) rfl (V_goto (tgt := 258) dX11_lay_282 (by decide) ?_)
        rw [nI_1]
        refine ih _ (fun x y => ?_)
        by_cases hx : x = 86 ∧ y = k
        · rw [hx.1, hx.2, u2e, if_pos (by omega), h2, if_neg (by omega)]; exact i0
        · rw [u2n (by omega), h2]
          by_cases hx2 : x = 86 ∧ y < k
          · rw [if_pos hx2, if_pos (by omega)]
          · rw [if_neg hx2, if_neg (by omega)]
    have L2 : ∀ k, k ≤ 8 → ∀ I2, (∀ x y, I2 x y = if (x = 76 ∨ x = 77 ∨ x = 78 ∨ x = 79 ∨ x = 80) ∧ y < k then I1 x (8 + y) else lyA2 I1 x y) → V E d M_X11_lay (MK t len (lyK t len K) (lyD t len D) D1 D2 (lyN t len kp) (lyT t len tl) (some (.int (a_lay t len))) I J (RR co dr cc a1 a2)) 169 [some (.ref 70), some (.int (nI k))] [] NC 0 0 I2 J (RR co dr cc a1 a2) := by
      refine loop_up 8 ?_ ?_
      · intro I2 h2
        refine V_iload_n dX11_lay_169 rfl rfl (V_bipush (v := 8) dX11_lay_170 (by decide) ?_)
        refine V_icmp_ge_t (tgt := 256) dX11_lay_172 (by decide) (nI_le (a := 8) (b := 8) (by decide) (by decide)) ?_
        refine V_iconst (v := 0) dX11_lay_256 (by decide) (V_istore_1 dX11_lay_257 (by decide) rfl ?_)
        exact L3 0 (by omega) I2 (fun x y => by rw [if_neg (by omega)]; exact h2 x y)
      · intro k hk ih I2 h2
        have i76 : lyA2 I1 76 (8 + k) = I1 76 (8 + k) := by simp [lyA1, lyA2, lyA3, lyA4, lyA5, lyA6]
        have i77 : lyA2 I1 77 (8 + k) = I1 77 (8 + k) := by simp [lyA1, lyA2, lyA3, lyA4, lyA5, lyA6]
        have i78 : lyA2 I1 78 (8 + k) = I1 78 (8 + k) := by simp [lyA1, lyA2, lyA3, lyA4, lyA5, lyA6]
        have i79 : lyA2 I1 79 (8 + k) = I1 79 (8 + k) := by simp [lyA1, lyA2, lyA3, lyA4, lyA5, lyA6]
        have i80 : lyA2 I1 80 (8 + k) = I1 80 (8 + k) := by simp [lyA1, lyA2, lyA3, lyA4, lyA5, lyA6]
        refine V_iload_n dX11_lay_169 rfl rfl (V_bipush (v := 8) dX11_lay_170 (by decide) ?_)
        refine V_icmp_ge_f (tgt := 256) dX11_lay_172 (by decide) (nI_ge (b := 8) hk (by decide)) ?_
        refine V_aload_n dX11_lay_175 rfl rfl ?_
        refine V_getR dX11_lay_176 fl_X11_25 (by first | assumption | exact ⟨by decide, rfl⟩) (by first | assumption | rfl) ?_
        refine V_iload_n dX11_lay_179 rfl rfl (V_aload_n dX11_lay_180 rfl rfl ?_)
        refine V_getR dX11_lay_181 fl_X11_25 (by first | assumption | exact ⟨by decide, rfl⟩) (by first | assumption | rfl) ?_
        refine V_bipush (v := 8) dX11_lay_184 (by decide) (V_iload_n dX11_lay_186 rfl rfl (V_iadd dX11_lay_187 ?_))
        refine V_ial dX11_lay_188 (by first | assumption | exact ⟨by decide, rfl⟩) (show ix _ (8 + k) 16 from ixa (a := 8) (by omega)) ?_
        refine V_ias dX11_lay_189 (by first | assumption | exact ⟨by decide, rfl⟩) (show ix _ k 16 from ⟨rfl, by omega⟩) ?_
        refine V_aload_n dX11_lay_190 rfl rfl ?_
        refine V_getR dX11_lay_191 fl_X11_28 (by first | assumption | exact ⟨by decide, rfl⟩) (by first | assumption | rfl) ?_
        refine V_iload_n dX11_lay_194 rfl rfl (V_aload_n dX11_lay_195 rfl rfl ?_)
        refine V_getR dX11_lay_196 fl_X11_28 (by first | assumption | exact ⟨by decide, rfl⟩) (by first | assumption | rfl) ?_
        refine V_bipush (v := 8) dX11_lay_199 (by decide) (V_iload_n dX11_lay_201 rfl rfl (V_iadd dX11_lay_202 ?_))
        refine V_ial dX11_lay_203 (by first | assumption | exact ⟨by decide, rfl⟩) (show ix _ (8 + k) 16 from ixa (a := 8) (by omega)) ?_
        refine V_ias dX11_lay_204 (by first | assumption | exact ⟨by decide, rfl⟩) (show ix _ k 16 from ⟨rfl, by omega⟩) ?_
        refine V_aload_n dX11_lay_205 rfl rfl ?_
        refine V_getR dX11_lay_206 fl_X11_31 (by first | assumption | exact ⟨by decide, rfl⟩) (by first | assumption | rfl) ?_
        refine V_iload_n dX11_lay_209 rfl rfl (V_aload_n dX11_lay_210 rfl rfl ?_)
        refine V_getR dX11_lay_211 fl_X11_31 (by first | assumption | exact ⟨by decide, rfl⟩) (by first | assumption | rfl) ?_
        refine V_bipush (v := 8) dX11_lay_214 (by decide) (V_iload_n dX11_lay_216 rfl rfl (V_iadd dX11_lay_217 ?_))
        refine V_ial dX11_lay_218 (by first | assumption | exact ⟨by decide, rfl⟩) (show ix _ (8 + k) 16 from ixa (a := 8) (by omega)) ?_
        refine V_ias dX11_lay_219 (by first | assumption | exact ⟨by decide, rfl⟩) (show ix _ k 16 from ⟨rfl, by omega⟩) ?_
        refine V_aload_n dX11_lay_220 rfl rfl ?_
        refine V_getR dX11_lay_221 fl_X11_34 (by first | assumption | exact ⟨by decide, rfl⟩) (by first | assumption | rfl) ?_
        refine V_iload_n dX11_lay_224 rfl rfl (V_aload_n dX11_lay_225 rfl rfl ?_)
        refine V_getR dX11_lay_226 fl_X11_34 (by first | assumption | exact ⟨by decide, rfl⟩) (by first | assumption | rfl) ?_
        refine V_bipush (v := 8) dX11_lay_229 (by decide) (V_iload_n dX11_lay_231 rfl rfl (V_iadd dX11_lay_232 ?_))
        refine V_ial dX11_lay_233 (by first | assumption | exact ⟨by decide, rfl⟩) (show ix _ (8 + k) 16 from ixa (a := 8) (by omega)) ?_
        refine V_ias dX11_lay_234 (by first | assumption | exact ⟨by decide, rfl⟩) (show ix _ k 16 from ⟨rfl, by omega⟩) ?_
        refine V_aload_n dX11_lay_235 rfl rfl ?_
        refine V_getR dX11_lay_236 fl_X11_37 (by first | assumption | exact ⟨by decide, rfl⟩) (by first | assumption | rfl) ?_
        refine V_iload_n dX11_lay_239 rfl rfl (V_aload_n dX11_lay_240 rfl rfl ?_)
        refine V_getR dX11_lay_241 fl_X11_37 (by first | assumption | exact ⟨by decide, rfl⟩) (by first | assumption | rfl) ?_
        refine V_bipush (v := 8) dX11_lay_244 (by decide) (V_iload_n dX11_lay_246 rfl rfl (V_iadd dX11_lay_247 ?_))
        refine V_ial dX11_lay_248 (by first | assumption | exact ⟨by decide, rfl⟩) (show ix _ (8 + k) 16 from ixa (a := 8) (by omega)) ?_
        refine V_ias dX11_lay_249 (by first | assumption | exact ⟨by decide, rfl⟩) (show ix _ k 16 from ⟨rfl, by omega⟩) ?_
        refine V_iinc_1 (w := 1) dX11_lay_250 (by decide) (by decide) rfl (V_goto (tgt := 169) dX11_lay_253 (by decide) ?_)
        rw [nI_1]
        refine ih _ (fun x y => ?_)
        by_cases hy : y = k
        · subst hy
          by_cases hx : x = 76 ∨ x = 77 ∨ x = 78 ∨ x = 79 ∨ x = 80
          · rcases hx with rfl | rfl | rfl | rfl | rfl <;> simp [up2, h2, show ¬ 8 + y < y by omega, i76, i77, i78, i79, i80]
          · rw [u2n (by omega), u2n (by omega), u2n (by omega), u2n (by omega), u2n (by omega), h2, if_neg (by omega), if_neg (by omega)]
        · rw [u2n (by omega), u2n (by omega), u2n (by omega), u2n (by omega), u2n (by omega), h2]
          by_cases hx : (x = 76 ∨ x = 77 ∨ x = 78 ∨ x = 79 ∨ x = 80) ∧ y < k
          · rw [if_pos hx, if_pos (by omega)]
          · rw [if_neg hx, if_neg (by omega)]
    have L1 : ∀ k, k ≤ 10 → ∀ I2, (∀ x y, I2 x y = if (x = 73 ∨ x = 74 ∨ x = 85 ∨ x = 82 ∨ x = 83) ∧ y < k then I1 x (10 + y) else lyA1 I1 x y) → V E d M_X11_lay (MK t len (lyK t len K) (lyD t len D) D1 D2 (lyN t len kp) (lyT t len tl) (some (.int (a_lay t len))) I J (RR co dr cc a1 a2)) 80 [some (.ref 70), some (.int (nI k))] [] NC 0 0 I2 J (RR co dr cc a1 a2) := by
      refine loop_up 10 ?_ ?_
      · intro I2 h2
        refine V_iload_n dX11_lay_80 rfl rfl (V_bipush (v := 10) dX11_lay_81 (by decide) ?_)
        refine V_icmp_ge_t (tgt := 167) dX11_lay_83 (by decide) (nI_le (a := 10) (b := 10) (by decide) (by decide)) ?_
        refine V_iconst (v := 0) dX11_lay_167 (by decide) (V_istore_1 dX11_lay_168 (by decide) rfl ?_)
        exact L2 0 (by omega) I2 (fun x y => by rw [if_neg (by omega)]; exact h2 x y)
      · intro k hk ih I2 h2
        have i73 : lyA1 I1 73 (10 + k) = I1 73 (10 + k) := by simp [lyA1, lyA2, lyA3, lyA4, lyA5, lyA6]
        have i74 : lyA1 I1 74 (10 + k) = I1 74 (10 + k) := by simp [lyA1, lyA2, lyA3, lyA4, lyA5, lyA6]
        have i85 : lyA1 I1 85 (10 + k) = I1 85 (10 + k) := by simp [lyA1, lyA2, lyA3, lyA4, lyA5, lyA6]
        have i82 : lyA1 I1 82 (10 + k) = I1 82 (10 + k) := by simp [lyA1, lyA2, lyA3, lyA4, lyA5, lyA6]
        have i83 : lyA1 I1 83 (10 + k) = I1 83 (10 + k) := by simp [lyA1, lyA2, lyA3, lyA4, lyA5, lyA6]
        refine V_iload_n dX11_lay_80 rfl rfl (V_bipush (v := 10) dX11_lay_81 (by decide) ?_)
        refine V_icmp_ge_f (tgt := 167) dX11_lay_83 (by decide) (nI_ge (b := 10) hk (by decide)) ?_
        refine V_aload_n dX11_lay_86 rfl rfl ?_
        refine V_getR dX11_lay_87 fl_X11_16 (by first | assumption | exact ⟨by decide, rfl⟩) (by first | assumption | rfl) ?_
        refine V_iload_n dX11_lay_90 rfl rfl (V_aload_n dX11_lay_91 rfl rfl ?_)
        refine V_getR dX11_lay_92 fl_X11_16 (by first | assumption | exact ⟨by decide, rfl⟩) (by first | assumption | rfl) ?_
        refine V_bipush (v := 10) dX11_lay_95 (by decide) (V_iload_n dX11_lay_97 rfl rfl (V_iadd dX11_lay_98 ?_))
        refine V_ial dX11_lay_99 (by first | assumption | exact ⟨by decide, rfl⟩) (show ix _ (10 + k) 20 from ixa (a := 10) (by omega)) ?_
        refine V_ias dX11_lay_100 (by first | assumption | exact ⟨by decide, rfl⟩) (show ix _ k 20 from ⟨rfl, by omega⟩) ?_
        refine V_aload_n dX11_lay_101 rfl rfl ?_
        refine V_getR dX11_lay_102 fl_X11_19 (by first | assumption | exact ⟨by decide, rfl⟩) (by first | assumption | rfl) ?_
        refine V_iload_n dX11_lay_105 rfl rfl (V_aload_n dX11_lay_106 rfl rfl ?_)
        refine V_getR dX11_lay_107 fl_X11_19 (by first | assumption | exact ⟨by decide, rfl⟩) (by first | assumption | rfl) ?_
        refine V_bipush (v := 10) dX11_lay_110 (by decide) (V_iload_n dX11_lay_112 rfl rfl (V_iadd dX11_lay_113 ?_))
        refine V_ial dX11_lay_114 (by first | assumption | exact ⟨by decide, rfl⟩) (show ix _ (10 + k) 20 from ixa (a := 10) (by omega)) ?_
        refine V_ias dX11_lay_115 (by first | assumption | exact ⟨by decide, rfl⟩) (show ix _ k 20 from ⟨rfl, by omega⟩) ?_
        refine V_aload_n dX11_lay_116 rfl rfl ?_
        refine V_getR dX11_lay_117 fl_X11_52 (by first | assumption | exact ⟨by decide, rfl⟩) (by first | assumption | rfl) ?_
        refine V_iload_n dX11_lay_120 rfl rfl (V_aload_n dX11_lay_121 rfl rfl ?_)
        refine V_getR dX11_lay_122 fl_X11_52 (by first | assumption | exact ⟨by decide, rfl⟩) (by first | assumption | rfl) ?_
        refine V_bipush (v := 10) dX11_lay_125 (by decide) (V_iload_n dX11_lay_127 rfl rfl (V_iadd dX11_lay_128 ?_))
        refine V_ial dX11_lay_129 (by first | assumption | exact ⟨by decide, rfl⟩) (show ix _ (10 + k) 20 from ixa (a := 10) (by omega)) ?_
        refine V_ias dX11_lay_130 (by first | assumption | exact ⟨by decide, rfl⟩) (show ix _ k 20 from ⟨rfl, by omega⟩) ?_
        refine V_aload_n dX11_lay_131 rfl rfl ?_
        refine V_getR dX11_lay_132 fl_X11_43 (by first | assumption | exact ⟨by decide, rfl⟩) (by first | assumption | rfl) ?_
        refine V_iload_n dX11_lay_135 rfl rfl (V_aload_n dX11_lay_136 rfl rfl ?_)
        refine V_getR dX11_lay_137 fl_X11_43 (by first | assumption | exact ⟨by decide, rfl⟩) (by first | assumption | rfl) ?_
        refine V_bipush (v := 10) dX11_lay_140 (by decide) (V_iload_n dX11_lay_142 rfl rfl (V_iadd dX11_lay_143 ?_))
        refine V_ial dX11_lay_144 (by first | assumption | exact ⟨by decide, rfl⟩) (show ix _ (10 + k) 20 from ixa (a := 10) (by omega)) ?_
        refine V_ias dX11_lay_145 (by first | assumption | exact ⟨by decide, rfl⟩) (show ix _ k 20 from ⟨rfl, by omega⟩) ?_
        refine V_aload_n dX11_lay_146 rfl rfl ?_
        refine V_getR dX11_lay_147 fl_X11_46 (by first | assumption | exact ⟨by decide, rfl⟩) (by first | assumption | rfl) ?_
        refine V_iload_n dX11_lay_150 rfl rfl (V_aload_n dX11_lay_151 rfl rfl ?_)
        refine V_getR dX11_lay_152 fl_X11_46 (by first | assumption | exact ⟨by decide, rfl⟩) (by first | assumption | rfl) ?_
        refine V_bipush (v := 10) dX11_lay_155 (by decide) (V_iload_n dX11_lay_157 rfl rfl (V_iadd dX11_lay_158 ?_))
        refine V_ial dX11_lay_159 (by first | assumption | exact ⟨by decide, rfl⟩) (show ix _ (10 + k) 20 from ixa (a := 10) (by omega)) ?_
        refine V_ias dX11_lay_160 (by first | assumption | exact ⟨by decide, rfl⟩) (show ix _ k 20 from ⟨rfl, by omega⟩) ?_
        refine V_iinc_1 (w := 1) dX11_lay_161 (by decide) (by decide) rfl (V_goto (tgt := 80) dX11_lay_164 (by decide) ?_)
        rw [nI_1]
        refine ih _ (fun x y => ?_)
        by_cases hy : y = k
        · subst hy
          by_cases hx : x = 73 ∨ x = 74 ∨ x = 85 ∨ x = 82 ∨ x = 83
          · rcases hx with rfl | rfl | rfl | rfl | rfl <;> simp [up2, h2, show ¬ 10 + y < y by omega, i73, i74, i85, i82, i83]
          · rw [u2n (by omega), u2n (by omega), u2n (by omega), u2n (by omega), u2n (by omega), h2, if_neg (by omega), if_neg (by omega)]
        · rw [u2n (by omega), u2n (by omega), u2n (by omega), u2n (by omega), u2n (by omega), h2]
          by_cases hx : (x = 73 ∨ x = 74 ∨ x = 85 ∨ x = 82 ∨ x = 83) ∧ y < k
          · rw [if_pos hx, if_pos (by omega)]
          · rw [if_neg hx, if_neg (by omega)]
    refine V_bipush (v := (-4)) dX11_lay_4 (by decide) ?_
    refine V_icmp_ne_f (tgt := 27) dX11_lay_6 (by decide) (rfl) ?_
    refine V_aload_n dX11_lay_9 rfl rfl ?_
    refine V_getR dX11_lay_10 fl_X11_13 (by first | assumption | exact ⟨by decide, rfl⟩) (by first | assumption | rfl) ?_
    refine V_iconst (v := 1) dX11_lay_13 (by decide) ?_
    refine V_ial dX11_lay_14 (by first | assumption | exact ⟨by decide, rfl⟩) (show ix _ 1 _ from ⟨rfl, by decide⟩) ?_
    refine V_if_eq_f (tgt := 27) dX11_lay_15 (by decide) (by rw [hX.1, ← nI_0]; exact fun z => c1 ((nI_eq (by omega) (by omega)).mp z)) ?_
    refine V_aload_n dX11_lay_18 rfl rfl ?_
    refine V_getR dX11_lay_19 fl_X11_22 (by first | assumption | exact ⟨by decide, rfl⟩) (by first | assumption | rfl) ?_
    refine V_iconst (v := 1) dX11_lay_22 (by decide) ?_
    refine V_ial dX11_lay_23 (by first | assumption | exact ⟨by decide, rfl⟩) (show ix _ 1 _ from ⟨rfl, by decide⟩) ?_
    refine V_if_ne_t (tgt := 30) dX11_lay_24 (by decide) (by rw [hX.2.1, ← nI_0]; exact fun z => c2 ((nI_eq (by omega) (by omega)).mp z)) ?_
    refine V_aload_n dX11_lay_30 rfl rfl ?_
    refine V_getR dX11_lay_31 fl_X11_13 (by first | assumption | exact ⟨by decide, rfl⟩) (by first | assumption | rfl) ?_
    refine V_iconst (v := 0) dX11_lay_34 (by decide) (V_aload_n dX11_lay_35 rfl rfl ?_)
    refine V_getR dX11_lay_36 fl_X11_13 (by first | assumption | exact ⟨by decide, rfl⟩) (by first | assumption | rfl) ?_
    refine V_iconst (v := 1) dX11_lay_39 (by decide) ?_
    refine V_ial dX11_lay_40 (by first | assumption | exact ⟨by decide, rfl⟩) (show ix _ 1 _ from ⟨rfl, by decide⟩) ?_
    refine V_ias dX11_lay_41 (by first | assumption | exact ⟨by decide, rfl⟩) (show ix _ 0 _ from ⟨rfl, by decide⟩) ?_
    refine V_aload_n dX11_lay_42 rfl rfl ?_
    refine V_getR dX11_lay_43 fl_X11_22 (by first | assumption | exact ⟨by decide, rfl⟩) (by first | assumption | rfl) ?_
    refine V_iconst (v := 0) dX11_lay_46 (by decide) (V_aload_n dX11_lay_47 rfl rfl ?_)
    refine V_getR dX11_lay_48 fl_X11_22 (by first | assumption | exact ⟨by decide, rfl⟩) (by first | assumption | rfl) ?_
    refine V_iconst (v := 1) dX11_lay_51 (by decide) ?_
    refine V_ial dX11_lay_52 (by first | assumption | exact ⟨by decide, rfl⟩) (show ix _ 1 _ from ⟨rfl, by decide⟩) ?_
    refine V_ias dX11_lay_53 (by first | assumption | exact ⟨by decide, rfl⟩) (show ix _ 0 _ from ⟨rfl, by decide⟩) ?_
    refine V_aload_n dX11_lay_54 rfl rfl ?_
    refine V_getR dX11_lay_55 fl_X11_40 (by first | assumption | exact ⟨by decide, rfl⟩) (by first | assumption | rfl) ?_
    refine V_iconst (v := 0) dX11_lay_58 (by decide) (V_aload_n dX11_lay_59 rfl rfl ?_)
    refine V_getR dX11_lay_60 fl_X11_40 (by first | assumption | exact ⟨by decide, rfl⟩) (by first | assumption | rfl) ?_
    refine V_iconst (v := 1) dX11_lay_63 (by decide) ?_
    refine V_ial dX11_lay_64 (by first | assumption | exact ⟨by decide, rfl⟩) (show ix _ 1 _ from ⟨rfl, by decide⟩) ?_
    refine V_ias dX11_lay_65 (by first | assumption | exact ⟨by decide, rfl⟩) (show ix _ 0 _ from ⟨rfl, by decide⟩) ?_
    refine V_aload_n dX11_lay_66 rfl rfl ?_
    refine V_getR dX11_lay_67 fl_X11_49 (by first | assumption | exact ⟨by decide, rfl⟩) (by first | assumption | rfl) ?_
    refine V_iconst (v := 0) dX11_lay_70 (by decide) (V_aload_n dX11_lay_71 rfl rfl ?_)
    refine V_getR dX11_lay_72 fl_X11_49 (by first | assumption | exact ⟨by decide, rfl⟩) (by first | assumption | rfl) ?_
    refine V_iconst (v := 1) dX11_lay_75 (by decide) ?_
    refine V_ial dX11_lay_76 (by first | assumption | exact ⟨by decide, rfl⟩) (show ix _ 1 _ from ⟨rfl, by decide⟩) ?_
    refine V_ias dX11_lay_77 (by first | assumption | exact ⟨by decide, rfl⟩) (show ix _ 0 _ from ⟨rfl, by decide⟩) ?_
    refine V_iconst (v := 0) dX11_lay_78 (by decide) (V_istore_1 dX11_lay_79 (by decide) rfl ?_)
    refine L1 0 (by omega) _ (fun x y => ?_)
    rw [if_neg (by omega), lyA1]
    by_cases hx : (x = 72 ∨ x = 75 ∨ x = 81 ∨ x = 84) ∧ y = 0
    · rw [if_pos hx]
      obtain ⟨hx, rfl⟩ := hx
      rcases hx with rfl | rfl | rfl | rfl <;> simp [up2]
    · rw [if_neg hx, u2n (by omega), u2n (by omega), u2n (by omega), u2n (by omega)]
end
