/-! The reference holds the state; its leaves -/
def MB (I : TI) (K : KT) : Prop :=
  (I 72 0 = nI (K 0 0) ∧ I 75 0 = nI (K 0 1) ∧ I 81 0 = nI (K 0 2) ∧ I 84 0 = nI (K 0 3)) ∧
  (I 87 0 = nI (K 0 4) ∧ I 87 1 = nI (K 0 5) ∧ I 87 2 = nI (K 0 6) ∧ I 87 3 = nI (K 0 7) ∧ I 87 4 = nI (K 0 8)) ∧
  (∀ p, p < K 0 0 → I 73 p = nI (K 1 p) ∧ I 74 p = nI (K 2 p)) ∧
  (∀ p, p < 10 → I 85 p = nI (K 3 p)) ∧
  (∀ i, i < K 0 1 → I 76 i = nI (K 4 i) ∧ I 77 i = nI (K 5 i) ∧ I 78 i = nI (K 6 i) ∧ I 79 i = nI (K 8 i)) ∧
  (∀ i, i < 8 → I 80 i = owv (K 7 i)) ∧
  (∀ s, s < K 0 2 → I 82 s = nI (K 9 s) ∧ I 83 s = nI (K 10 s)) ∧
  (∀ j, j < 100 → I 86 j = nI (K 11 j))
/-- how many of a row's places belong to the company that is laid -/
def ofs (x : Nat) : Nat := if x = 72 ∨ x = 75 ∨ x = 81 ∨ x = 84 then 1 else if x = 86 then 100 else if x = 87 then 5 else if 76 ≤ x ∧ x ≤ 80 then 8 else 10
theorem MB.of {I I' : TI} {K : KT} (h : MB I K) (hP : K 0 0 ≤ 10) (hQ : K 0 1 ≤ 8) (hS : K 0 2 ≤ 10) (he : ∀ x y, 72 ≤ x → x ≤ 87 → y < ofs x → I' x y = I x y) : MB I' K := by
  obtain ⟨⟨a1, a2, a3, a4⟩, ⟨b1, b2, b3, b4, b5⟩, d, e, f, g, k, l⟩ := h
  have o1 : ofs 72 = 1 ∧ ofs 75 = 1 ∧ ofs 81 = 1 ∧ ofs 84 = 1 ∧ ofs 87 = 5 ∧ ofs 73 = 10 ∧ ofs 74 = 10 ∧ ofs 85 = 10 ∧ ofs 76 = 8 ∧ ofs 77 = 8 ∧ ofs 78 = 8 ∧ ofs 79 = 8 ∧ ofs 80 = 8 ∧ ofs 82 = 10 ∧ ofs 83 = 10 ∧ ofs 86 = 100 := by decide
  refine ⟨⟨?_, ?_, ?_, ?_⟩, ⟨?_, ?_, ?_, ?_, ?_⟩, fun p hp => ⟨?_, ?_⟩, fun p hp => ?_, fun i hi => ⟨?_, ?_, ?_, ?_⟩, fun i hi => ?_, fun s hs => ⟨?_, ?_⟩, fun j hj => ?_⟩ <;> rw [he _ _ (by omega) (by omega) (by omega)]
  · exact a1
  · exact a2
  · exact a3
  · exact a4
  · exact b1
  · exact b2
  · exact b3
  · exact b4
  · exact b5
  · exact (d p hp).1
  · exact (d p hp).2
  · exact e p hp
  · exact (f i hi).1
  · exact (f i hi).2.1
  · exact (f i hi).2.2.1
  · exact (f i hi).2.2.2
  · exact g i hi
  · exact (k s hs).1
  · exact (k s hs).2
  · exact l j hj
section
variable {I : TI} {K : KT} (h : MB I K)
theorem MB.n0 (h : MB I K) : I 72 0 = nI (K 0 0) := h.1.1
theorem MB.n1 (h : MB I K) : I 75 0 = nI (K 0 1) := h.1.2.1
theorem MB.n2 (h : MB I K) : I 81 0 = nI (K 0 2) := h.1.2.2.1
theorem MB.n3 (h : MB I K) : I 84 0 = nI (K 0 3) := h.1.2.2.2
theorem MB.n4 (h : MB I K) : I 87 0 = nI (K 0 4) := h.2.1.1
theorem MB.n5 (h : MB I K) : I 87 1 = nI (K 0 5) := h.2.1.2.1
theorem MB.n6 (h : MB I K) : I 87 2 = nI (K 0 6) := h.2.1.2.2.1
theorem MB.n7 (h : MB I K) : I 87 3 = nI (K 0 7) := h.2.1.2.2.2.1
theorem MB.n8 (h : MB I K) : I 87 4 = nI (K 0 8) := h.2.1.2.2.2.2
theorem MB.hgt (h : MB I K) {p : Nat} (hp : p < K 0 0) : I 73 p = nI (K 1 p) := (h.2.2.1 p hp).1
theorem MB.skl (h : MB I K) {p : Nat} (hp : p < K 0 0) : I 74 p = nI (K 2 p) := (h.2.2.1 p hp).2
theorem MB.knw (h : MB I K) {p : Nat} (hp : p < 10) : I 85 p = nI (K 3 p) := h.2.2.2.1 p hp
theorem MB.siz (h : MB I K) {i : Nat} (hi : i < K 0 1) : I 76 i = nI (K 4 i) := (h.2.2.2.2.1 i hi).1
theorem MB.wnt (h : MB I K) {i : Nat} (hi : i < K 0 1) : I 77 i = nI (K 5 i) := (h.2.2.2.2.1 i hi).2.1
theorem MB.lin (h : MB I K) {i : Nat} (hi : i < K 0 1) : I 78 i = nI (K 6 i) := (h.2.2.2.2.1 i hi).2.2.1
theorem MB.cut (h : MB I K) {i : Nat} (hi : i < K 0 1) : I 79 i = nI (K 8 i) := (h.2.2.2.2.1 i hi).2.2.2
theorem MB.own (h : MB I K) {i : Nat} (hi : i < 8) : I 80 i = owv (K 7 i) := h.2.2.2.2.2.1 i hi
theorem MB.scn (h : MB I K) {s : Nat} (hs : s < K 0 2) : I 82 s = nI (K 9 s) := (h.2.2.2.2.2.2.1 s hs).1
theorem MB.mnt (h : MB I K) {s : Nat} (hs : s < K 0 2) : I 83 s = nI (K 10 s) := (h.2.2.2.2.2.2.1 s hs).2
theorem MB.cld (h : MB I K) {j : Nat} (hj : j < 100) : I 86 j = nI (K 11 j) := h.2.2.2.2.2.2.2 j hj
end
def MR (I : TI) (K : KT) : Prop := (∀ p, p < K 0 0 → I 93 p = nI (mayM K p)) ∧ ∀ i, i < K 0 1 → I 94 i = nI (withM K i)
def MTX (I : TI) (t : Nat → Nat) (len : Nat) : Prop := len ≤ 400 ∧ I 70 0 = nI len ∧ ∀ j, j < len → I 71 j = nI (t j) ∧ t j < 256
def MDX (I : TI) (b : Nat) (D : Di) : Prop := I 89 b = nI D.1 ∧ (∀ j, j < 80 → I 88 (80 * b + j) = nI (D.2.1 j)) ∧ ∀ p, p < 10 → I 90 (10 * b + p) = D.2.2 p
theorem MDX.td {I : TI} {D : Di} (h : MDX I 0 D) : I 89 0 = nI D.1 := h.1
theorem MDX.sd {I : TI} {D : Di} (h : MDX I 0 D) {j : Nat} (hj : j < 80) : I 88 j = nI (D.2.1 j) := by have := h.2.1 j hj; rwa [Nat.mul_zero, Nat.zero_add] at this
theorem MDX.ow {I : TI} {D : Di} (h : MDX I 0 D) {p : Nat} (hp : p < 10) : I 90 p = D.2.2 p := by have := h.2.2 p hp; rwa [Nat.mul_zero, Nat.zero_add] at this
theorem MDX.mk0 {I : TI} {D : Di} (h1 : I 89 0 = nI D.1) (h2 : ∀ j, j < 80 → I 88 j = nI (D.2.1 j)) (h3 : ∀ p, p < 10 → I 90 p = D.2.2 p) : MDX I 0 D := ⟨h1, fun j hj => by rw [Nat.mul_zero, Nat.zero_add]; exact h2 j hj, fun p hp => by rw [Nat.mul_zero, Nat.zero_add]; exact h3 p hp⟩
theorem MDX.of {I I' : TI} {b : Nat} {D : Di} (h : MDX I b D) (he : ∀ x y, 88 ≤ x → x ≤ 90 → I' x y = I x y) : MDX I' b D := ⟨by rw [he _ _ (by omega) (by omega)]; exact h.1, fun j hj => by rw [he _ _ (by omega) (by omega)]; exact h.2.1 j hj, fun p hp => by rw [he _ _ (by omega) (by omega)]; exact h.2.2 p hp⟩
def MDI (I : TI) (D D1 D2 : Di) (kp : Nat) (tl : Nat → Int32) : Prop := MDX I 0 D ∧ (1 ≤ kp → MDX I 1 D1) ∧ (2 ≤ kp → MDX I 2 D2) ∧ I 70 22 = nI kp ∧ ∀ p, p < 10 → I 91 p = tl p
theorem MDI.of {I I' : TI} {D D1 D2 : Di} {kp : Nat} {tl : Nat → Int32} (h : MDI I D D1 D2 kp tl) (he : ∀ x y, 88 ≤ x → x ≤ 91 → I' x y = I x y) (h0 : I' 70 22 = I 70 22) : MDI I' D D1 D2 kp tl := ⟨h.1.of (fun x y a b => he x y a (by omega)), fun k => (h.2.1 k).of (fun x y a b => he x y a (by omega)), fun k => (h.2.2.1 k).of (fun x y a b => he x y a (by omega)), by rw [h0]; exact h.2.2.2.1, fun p hp => by rw [he _ _ (by omega) (by omega)]; exact h.2.2.2.2 p hp⟩
theorem MTX.of {I I' : TI} {t : Nat → Nat} {len : Nat} (h : MTX I t len) (h1 : ∀ y, I' 71 y = I 71 y) (h0 : I' 70 0 = I 70 0) : MTX I' t len := ⟨h.1, by rw [h0]; exact h.2.1, fun j hj => by rw [h1]; exact h.2.2 j hj⟩
theorem MR.of {I I' : TI} {K : KT} (h : MR I K) (h1 : ∀ y, I' 93 y = I 93 y) (h2 : ∀ y, I' 94 y = I 94 y) : MR I' K := ⟨fun p hp => by rw [h1]; exact h.1 p hp, fun i hi => by rw [h2]; exact h.2 i hi⟩
def MS (t : Nat → Nat) (len : Nat) (K : KT) (D D1 D2 : Di) (kp : Nat) (tl : Nat → Int32) (I : TI) : Prop := KB K ∧ MB I K ∧ MR I K ∧ MTX I t len ∧ MDI I D D1 D2 kp tl
theorem MB.all {I I' : TI} {K : KT} (h : MB I K) (hB : KB K) (he : ∀ x y, 72 ≤ x → x ≤ 87 → I' x y = I x y) : MB I' K := h.of hB.1.1 hB.1.2.1 hB.1.2.2.1 (fun x y a b _ => he x y a b)
/-- scratch alone has changed -/
theorem MS.sc {t : Nat → Nat} {len : Nat} {K : KT} {D D1 D2 : Di} {kp : Nat} {tl : Nat → Int32} {I I' : TI} (h : MS t len K D D1 D2 kp tl I) (he : ∀ x y, 71 ≤ x → (x ≤ 91 ∨ x = 93 ∨ x = 94) → I' x y = I x y) (h0 : I' 70 0 = I 70 0) (h22 : I' 70 22 = I 70 22) : MS t len K D D1 D2 kp tl I' :=
  ⟨h.1, h.2.1.all h.1 (fun x y a b => he x y (by omega) (by omega)), h.2.2.1.of (fun y => he _ _ (by omega) (by omega)) (fun y => he _ _ (by omega) (by omega)), h.2.2.2.1.of (fun y => he _ _ (by omega) (by omega)) h0, h.2.2.2.2.of (fun x y a b => he x y (by omega) (by omega)) h22⟩
/-- a call of the reference: its answer and the state after it; the class's cells are let be -/
def MK (t : Nat → Nat) (len : Nat) (K : KT) (D D1 D2 : Di) (kp : Nat) (tl : Nat → Int32) (v : Option Value) (I : TI) (J : TJ) (R : TR) : PT := fun v' n I' J' R' => v' = v ∧ n = NC ∧ R' = R ∧ MS t len K D D1 D2 kp tl I' ∧ (∀ x y, x < 70 → I' x y = I x y) ∧ ∀ x y, x ≠ 70 → J' x y = J x y
theorem MK.same {t : Nat → Nat} {len : Nat} {K : KT} {D D1 D2 : Di} {kp : Nat} {tl : Nat → Int32} {v : Option Value} {I : TI} {J : TJ} {R : TR} (h : MS t len K D D1 D2 kp tl I) : MK t len K D D1 D2 kp tl v I J R v NC I J R := ⟨rfl, rfl, rfl, h, fun _ _ _ => rfl, fun _ _ _ => rfl⟩
theorem MK.eq {t : Nat → Nat} {len : Nat} {K : KT} {D D1 D2 : Di} {kp : Nat} {tl : Nat → Int32} {v w : Option Value} {I : TI} {J : TJ} {R : TR} (e : v = w) (h : MS t len K D D1 D2 kp tl I) : MK t len K D D1 D2 kp tl w I J R v NC I J R := ⟨e, rfl, rfl, h, fun _ _ _ => rfl, fun _ _ _ => rfl⟩
theorem sub1_toInt {n : Nat} (h : n < 2 ^ 31) : (nI n - 1).toInt = (n : Int) - 1 := by
  have e : (1 : Int32).toInt = 1 := by decide
  have e2 := nI_toInt h
  rw [fb_subI (by rw [e2, e]; omega) (by rw [e2, e]; omega), e2, e]
theorem i2l_toInt (x : Int32) : x.toInt64.toInt = x.toInt := Int32.toInt_toInt64 x
theorem in_R {x : Int32} {n : Nat} (hn : n < 2 ^ 31) : decide ((0 : Int64).toInt ≤ x.toInt64.toInt ∧ x.toInt64.toInt ≤ (nI n - 1).toInt64.toInt) = inR x n := by
  unfold inR
  rw [i2l_toInt, i2l_toInt, sub1_toInt hn, show (0 : Int64).toInt = 0 from by decide]
  exact decide_eq_decide.mpr (by omega)
theorem in_C {x : Int32} {a b : Int64} {u v : Int} (ha : a.toInt = u) (hb : b.toInt = v) : decide (a.toInt ≤ x.toInt64.toInt ∧ x.toInt64.toInt ≤ b.toInt) = decide (u ≤ x.toInt ∧ x.toInt ≤ v) := by
  rw [i2l_toInt, ha, hb]
section
variable {E : En} {n : Nat} {I : TI} {J : TJ} {R : TR} {co dr : Nat} {cc a1 a2 : Option Nat} {Post : PT} {K : KT} {d : Nat}
theorem mr_in {a b c : Int64} (Kk : Post (some (.int (b2i (decide (b.toInt ≤ a.toInt ∧ a.toInt ≤ c.toInt))))) n I J R) : Cal E d M_X11_in [.long a, .long b, .long c] n I J R Post := by
  refine Cal_of kn_X11_in rfl (Nat.le_of_ble_eq_true rfl) ?_
  refine V_lload_n dX11_in_0 rfl rfl (V_lload_n dX11_in_1 rfl rfl (V_lcmp dX11_in_2 ?_))
  refine V_if_lt (tgt := 17) dX11_in_3 (by decide) (fun h3 => ?_) (fun h3 => ?_)
  · rw [lg_cmp_lt, fa_lt64] at h3
    refine V_iconst (v := 0) dX11_in_17 (by decide) ?_
    refine V_ireturn dX11_in_18 rfl rfl rfl (by decide) (by decide) ?_
    rw [decide_eq_false (by omega)] at Kk; exact Kk
  · rw [lg_cmp_lt, fa_lt64] at h3
    refine V_lload_n dX11_in_6 rfl rfl (V_lload dX11_in_7 rfl (V_lcmp dX11_in_9 ?_))
    refine V_if_gt (tgt := 17) dX11_in_10 (by decide) (fun h10 => ?_) (fun h10 => ?_)
    · rw [lg_cmp_gt, fa_lt64] at h10
      refine V_iconst (v := 0) dX11_in_17 (by decide) ?_
      refine V_ireturn dX11_in_18 rfl rfl rfl (by decide) (by decide) ?_
      rw [decide_eq_false (by omega)] at Kk; exact Kk
    · rw [lg_cmp_gt, fa_lt64] at h10
      refine V_iconst (v := 1) dX11_in_13 (by decide) (V_goto (tgt := 18) dX11_in_14 (by decide) ?_)
      refine V_ireturn dX11_in_18 rfl rfl rfl (by decide) (by decide) ?_
      rw [decide_eq_true (by omega)] at Kk; exact Kk
theorem mr_isPlayer (hP : I 72 0 = nI (K 0 0)) (hP2 : K 0 0 ≤ 10) {x : Int32} (Kk : Post (some (.int (b2i (inR x (K 0 0))))) NC I J (RR co dr cc a1 a2)) : Cal E 2 M_X11_isPlayer [.ref 70, .int x] NC I J (RR co dr cc a1 a2) Post := by
  refine Cal_of kn_X11_isPlayer rfl (Nat.le_of_ble_eq_true rfl) ?_
  refine V_iload_n dX11_isPlayer_0 rfl rfl (V_i2l dX11_isPlayer_1 (V_lconst (v := 0) dX11_isPlayer_2 rfl (V_aload_n dX11_isPlayer_3 rfl rfl ?_)))
  refine V_getR dX11_isPlayer_4 fl_X11_13 (by first | assumption | exact ⟨by decide, rfl⟩) (by first | assumption | rfl) ?_
  refine V_iconst (v := 0) dX11_isPlayer_7 (by decide) ?_
  refine V_ial dX11_isPlayer_8 (by first | assumption | exact ⟨by decide, rfl⟩) (show ix _ 0 _ from ⟨rfl, by decide⟩) ?_
  refine V_iconst (v := 1) dX11_isPlayer_9 (by decide) (V_isub dX11_isPlayer_10 (V_i2l dX11_isPlayer_11 ?_))
  refine V_cS3i (M' := M_X11_in) (d' := 1) dX11_isPlayer_12 (Or.inl ml_X11_124) kb_X11_in (by first | decide | omega) (by simp [Value.category]) ⟨by decide, by decide⟩ ?_
  refine mr_in ⟨_, rfl, ?_⟩
  rw [hP, in_R (by omega)]
  refine V_ireturn dX11_isPlayer_15 rfl rfl (b2i_nar _) (by decide) (by decide) ?_
  exact Kk
theorem mr_isPart (hP : I 75 0 = nI (K 0 1)) (hP2 : K 0 1 ≤ 8) {x : Int32} (Kk : Post (some (.int (b2i (inR x (K 0 1))))) NC I J (RR co dr cc a1 a2)) : Cal E 2 M_X11_isPart [.ref 70, .int x] NC I J (RR co dr cc a1 a2) Post := by
  refine Cal_of kn_X11_isPart rfl (Nat.le_of_ble_eq_true rfl) ?_
  refine V_iload_n dX11_isPart_0 rfl rfl (V_i2l dX11_isPart_1 (V_lconst (v := 0) dX11_isPart_2 rfl (V_aload_n dX11_isPart_3 rfl rfl ?_)))
  refine V_getR dX11_isPart_4 fl_X11_22 (by first | assumption | exact ⟨by decide, rfl⟩) (by first | assumption | rfl) ?_
  refine V_iconst (v := 0) dX11_isPart_7 (by decide) ?_
  refine V_ial dX11_isPart_8 (by first | assumption | exact ⟨by decide, rfl⟩) (show ix _ 0 _ from ⟨rfl, by decide⟩) ?_
  refine V_iconst (v := 1) dX11_isPart_9 (by decide) (V_isub dX11_isPart_10 (V_i2l dX11_isPart_11 ?_))
  refine V_cS3i (M' := M_X11_in) (d' := 1) dX11_isPart_12 (Or.inl ml_X11_124) kb_X11_in (by first | decide | omega) (by simp [Value.category]) ⟨by decide, by decide⟩ ?_
  refine mr_in ⟨_, rfl, ?_⟩
  rw [hP, in_R (by omega)]
  refine V_ireturn dX11_isPart_15 rfl rfl (b2i_nar _) (by decide) (by decide) ?_
  exact Kk
theorem mr_isOff (hP : I 72 0 = nI (K 0 0)) (hP2 : K 0 0 ≤ 10) {x : Int32} (Kk : Post (some (.int (b2i (inR x (2 ^ K 0 0))))) NC I J (RR co dr cc a1 a2)) : Cal E 2 M_X11_isOff [.ref 70, .int x] NC I J (RR co dr cc a1 a2) Post := by
  have h2 : 2 ^ K 0 0 < 2 ^ 31 := Nat.pow_lt_pow_right (by decide) (by omega)
  refine Cal_of kn_X11_isOff rfl (Nat.le_of_ble_eq_true rfl) ?_
  refine V_iload_n dX11_isOff_0 rfl rfl (V_i2l dX11_isOff_1 (V_lconst (v := 0) dX11_isOff_2 rfl (V_iconst (v := 1) dX11_isOff_3 (by decide) (V_aload_n dX11_isOff_4 rfl rfl ?_))))
  refine V_getR dX11_isOff_5 fl_X11_13 (by first | assumption | exact ⟨by decide, rfl⟩) (by first | assumption | rfl) ?_
  refine V_iconst (v := 0) dX11_isOff_8 (by decide) ?_
  refine V_ial dX11_isOff_9 (by first | assumption | exact ⟨by decide, rfl⟩) (show ix _ 0 _ from ⟨rfl, by decide⟩) ?_
  refine V_ishl dX11_isOff_10 (V_iconst (v := 1) dX11_isOff_11 (by decide) (V_isub dX11_isOff_12 (V_i2l dX11_isOff_13 ?_)))
  refine V_cS3i (M' := M_X11_in) (d' := 1) dX11_isOff_14 (Or.inl ml_X11_124) kb_X11_in (by first | decide | omega) (by simp [Value.category]) ⟨by decide, by decide⟩ ?_
  refine mr_in ⟨_, rfl, ?_⟩
  rw [hP, shl1 (by omega), in_R h2]
  refine V_ireturn dX11_isOff_17 rfl rfl (b2i_nar _) (by decide) (by decide) ?_
  exact Kk
theorem mr_isCut (hP : I 75 0 = nI (K 0 1)) (hP2 : K 0 1 ≤ 8) {x : Int32} (Kk : Post (some (.int (b2i (inR x (2 ^ K 0 1))))) NC I J (RR co dr cc a1 a2)) : Cal E 2 M_X11_isCut [.ref 70, .int x] NC I J (RR co dr cc a1 a2) Post := by
  have h2 : 2 ^ K 0 1 < 2 ^ 31 := Nat.pow_lt_pow_right (by decide) (by omega)
  refine Cal_of kn_X11_isCut rfl (Nat.le_of_ble_eq_true rfl) ?_
  refine V_iload_n dX11_isCut_0 rfl rfl (V_i2l dX11_isCut_1 (V_lconst (v := 0) dX11_isCut_2 rfl (V_iconst (v := 1) dX11_isCut_3 (by decide) (V_aload_n dX11_isCut_4 rfl rfl ?_))))
  refine V_getR dX11_isCut_5 fl_X11_22 (by first | assumption | exact ⟨by decide, rfl⟩) (by first | assumption | rfl) ?_
  refine V_iconst (v := 0) dX11_isCut_8 (by decide) ?_
  refine V_ial dX11_isCut_9 (by first | assumption | exact ⟨by decide, rfl⟩) (show ix _ 0 _ from ⟨rfl, by decide⟩) ?_
  refine V_ishl dX11_isCut_10 (V_iconst (v := 1) dX11_isCut_11 (by decide) (V_isub dX11_isCut_12 (V_i2l dX11_isCut_13 ?_)))
  refine V_cS3i (M' := M_X11_in) (d' := 1) dX11_isCut_14 (Or.inl ml_X11_124) kb_X11_in (by first | decide | omega) (by simp [Value.category]) ⟨by decide, by decide⟩ ?_
  refine mr_in ⟨_, rfl, ?_⟩
  rw [hP, shl1 (by omega), in_R h2]
  refine V_ireturn dX11_isCut_17 rfl rfl (b2i_nar _) (by decide) (by decide) ?_
  exact Kk
theorem mr_hoursOf (hB : KB K) (hM : MB I K) {i : Nat} (hi : i < K 0 1) (Kk : Post (some (.int (nI ((K 6 i + 99) / 100)))) NC I J (RR co dr cc a1 a2)) : Cal E d M_X11_hoursOf [.ref 70, .int (nI i)] NC I J (RR co dr cc a1 a2) Post := by
  have hQ := hB.1.2.1
  have hl := (hB.2.2.2.1 i hi).2.2.2.1
  refine Cal_of kn_X11_hoursOf rfl (Nat.le_of_ble_eq_true rfl) ?_
  refine V_aload_n dX11_hoursOf_0 rfl rfl ?_
  refine V_getR dX11_hoursOf_1 fl_X11_31 (by first | assumption | exact ⟨by decide, rfl⟩) (by first | assumption | rfl) ?_
  refine V_iload_n dX11_hoursOf_4 rfl rfl ?_
  refine V_ial dX11_hoursOf_5 (by first | assumption | exact ⟨by decide, rfl⟩) (show ix _ i 16 from ⟨rfl, by omega⟩) ?_
  refine V_bipush (v := 99) dX11_hoursOf_6 (by decide) (V_iadd dX11_hoursOf_8 (V_bipush (v := 100) dX11_hoursOf_9 (by decide) (V_idiv dX11_hoursOf_11 (by decide) ?_)))
  refine V_ireturn dX11_hoursOf_12 rfl rfl rfl (by decide) (by decide) ?_
  rw [hM.lin hi, show (99 : Int32) = nI 99 from rfl, show (100 : Int32) = nI 100 from rfl, nI_add, pk_div (by omega) (by omega) (by omega)]
  exact Kk
theorem mr_kept (hB : KB K) (hM : MB I K) {D : Di} (hD : MDX I 0 D) (hDB : DB D.1 D.2.1) {p i : Nat} (hp : p < 10) (hi : i < K 0 1) (Kk : Post (some (.int (nI (kpt K D.1 D.2.1 p i)))) NC I J (RR co dr cc a1 a2)) : Cal E d M_X11_kept [.ref 70, .int (nI p), .int (nI i)] NC I J (RR co dr cc a1 a2) Post := by
  have hQ := hB.1.2.1
  have hl := (hB.2.2.2.1 i hi).2.2.2.1
  have hf := hB.1.2.2.2.2.2.2.1
  have ht := hDB.1
  have hs := hDB.2 (8 * p + i)
  have e100 : (100 : Int32) = nI 100 := rfl
  have hprod : K 0 6 * (D.1 - D.2.1 (8 * p + i)) ≤ 99 * 100000 := Nat.mul_le_mul hf (by omega)
  refine Cal_of kn_X11_kept rfl (Nat.le_of_ble_eq_true rfl) ?_
  refine V_bipush (v := 100) dX11_kept_0 (by decide) (V_aload_n dX11_kept_2 rfl rfl ?_)
  refine V_getR dX11_kept_3 fl_X11_58 (by first | assumption | exact ⟨by decide, rfl⟩) (by first | assumption | rfl) ?_
  refine V_iconst (v := 2) dX11_kept_6 (by decide) ?_
  refine V_ial dX11_kept_7 (by first | assumption | exact ⟨by decide, rfl⟩) (show ix _ 2 _ from ⟨rfl, by decide⟩) ?_
  refine V_aload_n dX11_kept_8 rfl rfl ?_
  refine V_getR dX11_kept_9 fl_X11_64 (by first | assumption | exact ⟨by decide, rfl⟩) (by first | assumption | rfl) ?_
  refine V_iconst (v := 0) dX11_kept_12 (by decide) ?_
  refine V_ial dX11_kept_13 (by first | assumption | exact ⟨by decide, rfl⟩) (show ix _ 0 _ from ⟨rfl, by decide⟩) ?_
  refine V_aload_n dX11_kept_14 rfl rfl ?_
  refine V_getR dX11_kept_15 fl_X11_61 (by first | assumption | exact ⟨by decide, rfl⟩) (by first | assumption | rfl) ?_
  refine V_bipush (v := 8) dX11_kept_18 (by decide) (V_iload_n dX11_kept_20 rfl rfl (V_imul dX11_kept_21 (V_iload_n dX11_kept_22 rfl rfl (V_iadd dX11_kept_23 ?_))))
  refine V_ial dX11_kept_24 (by first | assumption | exact ⟨by decide, rfl⟩) (show ix _ (8 * p + i) 240 from ⟨(by rw [show (8 : Int32) = nI 8 from rfl, pk_mul, nI_add]), by omega⟩) ?_
  refine V_isub dX11_kept_25 (V_imul dX11_kept_26 (V_isub dX11_kept_27 ?_))
  rw [hM.n6, hD.td, hD.sd (by omega), pk_sub hs, pk_mul]
  generalize hy : K 0 6 * (D.1 - D.2.1 (8 * p + i)) = y at *
  unfold kpt at Kk
  rw [hy] at Kk
  by_cases h1 : y ≤ 100
  · rw [e100, pk_sub h1]
    refine V_istore_3 dX11_kept_28 (by decide) rfl (V_iload_n dX11_kept_29 rfl rfl ?_)
    refine V_if_ge_t (tgt := 37) dX11_kept_30 (by decide) (nI_pos' (by omega)) ?_
    refine V_aload_n dX11_kept_37 rfl rfl ?_
    refine V_getR dX11_kept_38 fl_X11_31 (by first | assumption | exact ⟨by decide, rfl⟩) (by first | assumption | rfl) ?_
    refine V_iload_n dX11_kept_41 rfl rfl ?_
    refine V_ial dX11_kept_42 (by first | assumption | exact ⟨by decide, rfl⟩) (show ix _ i 16 from ⟨rfl, by omega⟩) ?_
    refine V_iload_n dX11_kept_43 rfl rfl (V_imul dX11_kept_44 (V_bipush (v := 100) dX11_kept_45 (by decide) (V_idiv dX11_kept_47 (by decide) ?_)))
    refine V_ireturn dX11_kept_48 rfl rfl rfl (by decide) (by decide) ?_
    have hm : K 6 i * (100 - y) ≤ 999 * 100 := Nat.mul_le_mul hl (by omega)
    rw [hM.lin hi, e100, pk_mul, pk_div (by omega) (by omega) (by omega)]
    exact Kk
  · have hneg : ¬ (0 : Int32) ≤ 100 - nI y := by
      rw [fa_le]
      have e0 : (0 : Int32).toInt = 0 := by decide
      have e1 : (100 : Int32).toInt = 100 := by decide
      have e2 := nI_toInt (n := y) (by omega)
      rw [fb_subI (by rw [e1, e2]; omega) (by rw [e1, e2]; omega), e0, e1, e2]
      omega
    refine V_istore_3 dX11_kept_28 (by decide) rfl (V_iload_n dX11_kept_29 rfl rfl ?_)
    refine V_if_ge_f (tgt := 37) dX11_kept_30 (by decide) (hneg) ?_
    refine V_iconst (v := 0) dX11_kept_33 (by decide) (V_goto (tgt := 48) dX11_kept_34 (by decide) ?_)
    refine V_ireturn dX11_kept_48 rfl rfl rfl (by decide) (by decide) ?_
    rw [show 100 - y = 0 by omega, Nat.mul_zero] at Kk
    exact Kk
end
