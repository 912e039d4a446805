/-! The reference goes through the castings -/
theorem TS_app (tb : Nat → Nat → Nat) : ∀ (pre : List Nat) (i w : Nat), TS tb i (pre ++ [w]) = TS tb i pre + (if w = 0 then 0 else tb (w - 1) (i + pre.length))
  | [], i, w => by simp [TS]
  | x :: pre, i, w => by
    show _ + TS tb (i + 1) (pre ++ [w]) = (_ + TS tb (i + 1) pre) + _
    rw [TS_app tb pre (i + 1) w, show i + 1 + pre.length = i + (x :: pre).length by rw [List.length_cons]; omega]
    omega
theorem TS_sm (tb : Nat → Nat → Nat) : ∀ (l : List Nat) (i : Nat), TS tb i l = fb_sm (fun j => if l.getD j 0 = 0 then 0 else tb (l.getD j 0 - 1) (i + j)) l.length
  | [], i => rfl
  | w :: l, i => by
    show (if w = 0 then 0 else tb (w - 1) i) + TS tb (i + 1) l = fb_sm _ (l.length + 1)
    rw [TS_sm tb l (i + 1), Nat.add_comm l.length 1, fb_sm_split]
    have e1 : fb_sm (fun j => if (w :: l).getD j 0 = 0 then 0 else tb ((w :: l).getD j 0 - 1) (i + j)) 1 = if w = 0 then 0 else tb (w - 1) i := by
      show 0 + (if w = 0 then 0 else tb (w - 1) (i + 0)) = _
      rw [Nat.zero_add, Nat.add_zero]
    rw [e1]
    congr 1
    refine fb_sm_cong (fun k _ => ?_)
    have e2 : (w :: l).getD (1 + k) 0 = l.getD k 0 := by rw [Nat.add_comm]; rfl
    rw [e2, show i + 1 + k = i + (1 + k) by omega]
theorem TS_le {K : KT} (hB : KB K) {td : Nat} {sd : Nat → Nat} {ok : Nat → Nat → Bool} {ct : Nat → Bool} {cm : Nat → Nat} : ∀ (r i : Nat) (tk : Nat → Nat) (l : List Nat), i + r = K 0 1 → l ∈ CL (K 0 0) ok ct cm r i tk → TS (trb K td sd) i l ≤ r * 1990
  | 0, i, tk, l, _, h => by
    simp [CL] at h
    rw [h]; show 0 ≤ _; omega
  | r + 1, i, tk, l, hi, h => by
    rw [CL] at h
    split at h
    · obtain ⟨x, hx, rfl⟩ := List.mem_map.mp h
      have := TS_le hB (td := td) (sd := sd) r (i + 1) tk x (by omega) hx
      show (if 0 = 0 then 0 else _) + TS _ (i + 1) x ≤ _
      rw [if_pos rfl]; omega
    · obtain ⟨p, hp, hx⟩ := List.mem_flatMap.mp h
      split at hx
      · obtain ⟨x, hx2, rfl⟩ := List.mem_map.mp hx
        have h1 := TS_le hB (td := td) (sd := sd) r (i + 1) _ x (by omega) hx2
        have h2 := trb_le hB (td := td) (sd := sd) (List.mem_range.mp hp) (show i < K 0 1 by omega)
        show (if p + 1 = 0 then 0 else trb K td sd (p + 1 - 1) i) + TS _ (i + 1) x ≤ _
        rw [if_neg (by omega), Nat.add_sub_cancel]; omega
      · cases hx
/-- the first of some players on whom something holds -/
def nxf (f : Nat → Bool) : Nat → Nat → Option Nat
  | 0, _ => none
  | r + 1, p => if f p = true then some p else nxf f r (p + 1)
theorem nxf_in {f : Nat → Bool} : ∀ {r p q : Nat}, nxf f r p = some q → p ≤ q ∧ q < p + r ∧ f q = true
  | 0, p, q, h => by cases h
  | r + 1, p, q, h => by
    unfold nxf at h
    by_cases hf : f p = true
    · rw [if_pos hf] at h; cases h; exact ⟨by omega, by omega, hf⟩
    · rw [if_neg hf] at h
      have := nxf_in h
      exact ⟨by omega, by omega, this.2.2⟩
theorem CLp_nx {P : Nat} {ok : Nat → Nat → Bool} {ct : Nat → Bool} {cm : Nat → Nat} {r i : Nat} {tk : Nat → Nat} : ∀ (n q : Nat), q + n = P → CLp P ok ct cm r i tk q = match nxf (fun p => fre ok cm tk p i) n q with | none => [] | some p => (CL P ok ct cm r (i + 1) (tset tk p i)).map (fun l => (p + 1) :: l) ++ CLp P ok ct cm r i tk (p + 1)
  | 0, q, h => by rw [CLp_end (by omega)]; rfl
  | n + 1, q, h => by
    cases hf : fre ok cm tk q i
    · rw [CLp_not (by omega) hf, CLp_nx n (q + 1) (by omega)]
      have e : nxf (fun p => fre ok cm tk p i) (n + 1) q = nxf (fun p => fre ok cm tk p i) n (q + 1) := by
        show (if fre ok cm tk q i = true then _ else _) = _
        rw [hf]; rfl
      rw [e]
    · rw [CLp_free (by omega) hf]
      have e : nxf (fun p => fre ok cm tk p i) (n + 1) q = some q := by
        show (if fre ok cm tk q i = true then _ else _) = _
        rw [hf]; rfl
      rw [e]
theorem with_clash {K : KT} {i tk : Nat} (hi : i < K 0 1) (ht : tk < 2 ^ i) : andn tk (withM K i) = tk &&& clashM K i := tb_ext (fun j => by
  rw [andn_tb, Nat.testBit_and]
  cases hj : tk.testBit j
  · rfl
  · have hji : j < i := by
      apply Classical.byContradiction
      intro q
      rw [tb_big ht (by omega)] at hj
      cases hj
    unfold withM clashM
    rw [mk_tb, mk_tb]
    simp [show j < K 0 1 by omega, show i ≠ j by omega, show j ≠ i by omega])
def sbk (cut : Nat) : Nat → Int32
  | 0 => -1
  | i + 1 => if cut.testBit i = true then sbk cut i else nI i
def FrC (I0 I : TI) : Prop := ∀ x y, x ≠ 95 → x ≠ 96 → x ≠ 97 → (x ≠ 70 ∨ y ≠ 31) → I x y = I0 x y
def ACC (I : TI) (Q : Nat) (a : Nat × List Nat) : Prop := (a.1 = 1000000 ∧ I 70 31 = -4) ∨ (a.1 < 1000000 ∧ I 70 31 = nI a.1 ∧ ∀ j, j < Q → I 96 j = owv (a.2.getD j 0))
def PIL (I : TI) (i : Nat) (pre : List Nat) : Prop := (∀ j, j < i → I 95 j = owv (pre.getD j 0)) ∧ ∀ j, i ≤ j → j < 8 → I 95 j = -4
def HAV (I : TI) (tk : Nat → Nat) : Prop := ∀ p, p < 10 → I 97 p = nI (tk p)
theorem ACC.of {I I' : TI} {Q : Nat} {a : Nat × List Nat} (h : ACC I Q a) (h1 : I' 70 31 = I 70 31) (h2 : ∀ y, I' 96 y = I 96 y) : ACC I' Q a := by
  rcases h with ⟨x, y⟩ | ⟨x, y, z⟩
  · exact Or.inl ⟨x, by rw [h1]; exact y⟩
  · exact Or.inr ⟨x, by rw [h1]; exact y, fun j hj => by rw [h2]; exact z j hj⟩
theorem getD_app1 {pre : List Nat} {w j : Nat} (h : j < pre.length) : (pre ++ [w]).getD j 0 = pre.getD j 0 := by
  rw [List.getD_eq_getElem?_getD, List.getD_eq_getElem?_getD, List.getElem?_append_left h]
theorem getD_app2 {pre : List Nat} {w : Nat} : (pre ++ [w]).getD pre.length 0 = w := by simp
theorem neg0sub (x : Int32) : -x = 0 - x := by rw [Int32.sub_eq_add_neg, Int32.zero_add]
section
variable {E : En} {I : TI} {J : TJ} {co dr : Nat} {cc a1 a2 : Option Nat} {Post : PT} {K : KT} {D : Di} {d : Nat}
theorem mr_trouble (hB : KB K) (hM : MB I K) (hD : MDX I 0 D) (hDB : DB D.1 D.2.1) {p i : Nat} (hp : p < K 0 0) (hi : i < K 0 1) (Kk : Post (some (.int (nI (trb K D.1 D.2.1 p i)))) NC I J (RR co dr cc a1 a2)) : Cal E 2 M_X11_trouble [.ref 70, .int (nI p), .int (nI i)] NC I J (RR co dr cc a1 a2) Post := by
  have hP := hB.1.1
  have hQ := hB.1.2.1
  have h1 := (hB.2.1 p hp).1
  have h2 := (hB.2.2.2.1 i hi).1
  have ho := hB.2.2.2.2.1 i
  refine Cal_of kn_X11_trouble rfl (Nat.le_of_ble_eq_true rfl) ?_
  refine V_aload_n dX11_trouble_0 rfl rfl ?_
  refine V_getR dX11_trouble_1 fl_X11_31 (by first | assumption | exact ⟨by decide, rfl⟩) (by first | assumption | rfl) ?_
  refine V_iload_n dX11_trouble_4 rfl rfl ?_
  refine V_ial dX11_trouble_5 (by first | assumption | exact ⟨by decide, rfl⟩) (show ix _ i 16 from ⟨rfl, by omega⟩) ?_
  refine V_aload_n dX11_trouble_6 rfl rfl (V_iload_n dX11_trouble_7 rfl rfl (V_iload_n dX11_trouble_8 rfl rfl ?_))
  refine V_cV2i (M' := M_X11_kept) (d' := 1) dX11_trouble_9 (Or.inl ml_X11_205) kb_X11_kept (by first | assumption | exact ⟨by decide, rfl⟩) (by first | decide | omega) (by simp [Value.category]) ⟨by decide, by decide⟩ ?_
  refine mr_kept hB hM hD hDB (by omega) hi ⟨_, rfl, ?_⟩
  rw [hM.lin hi, ]
  refine V_isub dX11_trouble_12 (V_istore_3 dX11_trouble_13 (by decide) rfl (V_aload_n dX11_trouble_14 rfl rfl ?_))
  refine V_getR dX11_trouble_15 fl_X11_16 (by first | assumption | exact ⟨by decide, rfl⟩) (by first | assumption | rfl) ?_
  refine V_iload_n dX11_trouble_18 rfl rfl ?_
  refine V_ial dX11_trouble_19 (by first | assumption | exact ⟨by decide, rfl⟩) (show ix _ p 20 from ⟨rfl, by omega⟩) ?_
  refine V_aload_n dX11_trouble_20 rfl rfl ?_
  refine V_getR dX11_trouble_21 fl_X11_25 (by first | assumption | exact ⟨by decide, rfl⟩) (by first | assumption | rfl) ?_
  refine V_iload_n dX11_trouble_24 rfl rfl ?_
  refine V_ial dX11_trouble_25 (by first | assumption | exact ⟨by decide, rfl⟩) (show ix _ i 16 from ⟨rfl, by omega⟩) ?_
  refine V_isub dX11_trouble_26 (V_istore_4 dX11_trouble_27 (by decide) rfl ?_)
  rw [pk_sub (kpt_le K D.1 D.2.1 p i), hM.hgt hp, hM.siz hi]
  unfold trb at Kk
  by_cases hw : K 7 i = p + 1
  · refine V_aload_n dX11_trouble_29 rfl rfl ?_
    refine V_getR dX11_trouble_30 fl_X11_37 (by first | assumption | exact ⟨by decide, rfl⟩) (by first | assumption | rfl) ?_
    refine V_iload_n dX11_trouble_33 rfl rfl ?_
    refine V_ial dX11_trouble_34 (by first | assumption | exact ⟨by decide, rfl⟩) (show ix _ i 16 from ⟨rfl, by omega⟩) ?_
    refine V_iload_n dX11_trouble_35 rfl rfl ?_
    refine V_icmp_ne_f (tgt := 43) dX11_trouble_36 (by decide) (by rw [hM.own (by omega)]; exact (owv_eq (by omega) (by omega)).mpr hw) ?_
    refine V_iload_n dX11_trouble_39 rfl rfl (V_goto (tgt := 68) dX11_trouble_40 (by decide) ?_)
    refine V_ireturn dX11_trouble_68 rfl rfl rfl (by decide) (by decide) ?_
    rw [if_pos hw, Nat.add_zero] at Kk
    exact Kk
  · rw [if_neg hw] at Kk
    have ab := abs_nI h1 h2
    have e100 : (100 : Int32) = nI 100 := rfl
    by_cases hs : (0 : Int32) ≤ nI (K 1 p) - nI (K 4 i)
    · rw [if_pos hs] at ab
      refine V_aload_n dX11_trouble_29 rfl rfl ?_
      refine V_getR dX11_trouble_30 fl_X11_37 (by first | assumption | exact ⟨by decide, rfl⟩) (by first | assumption | rfl) ?_
      refine V_iload_n dX11_trouble_33 rfl rfl ?_
      refine V_ial dX11_trouble_34 (by first | assumption | exact ⟨by decide, rfl⟩) (show ix _ i 16 from ⟨rfl, by omega⟩) ?_
      refine V_iload_n dX11_trouble_35 rfl rfl ?_
      refine V_icmp_ne_t (tgt := 43) dX11_trouble_36 (by decide) (by rw [hM.own (by omega)]; exact fun z => hw ((owv_eq (by omega) (by omega)).mp z)) ?_
      refine V_bipush (v := 100) dX11_trouble_43 (by decide) (V_aload_n dX11_trouble_45 rfl rfl ?_)
      refine V_getR dX11_trouble_46 fl_X11_58 (by first | assumption | exact ⟨by decide, rfl⟩) (by first | assumption | rfl) ?_
      refine V_iconst (v := 1) dX11_trouble_49 (by decide) ?_
      refine V_ial dX11_trouble_50 (by first | assumption | exact ⟨by decide, rfl⟩) (show ix _ 1 _ from ⟨rfl, by decide⟩) ?_
      refine V_iload dX11_trouble_51 rfl ?_
      refine V_if_ge_t (tgt := 62) dX11_trouble_53 (by decide) (hs) ?_
      refine V_iload dX11_trouble_62 rfl (V_imul dX11_trouble_64 (V_iadd dX11_trouble_65 (V_iload_n dX11_trouble_66 rfl rfl (V_iadd dX11_trouble_67 ?_))))
      refine V_ireturn dX11_trouble_68 rfl rfl rfl (by decide) (by decide) ?_
      rw [hM.n5, ab, e100, pk_mul, nI_add, nI_add, Nat.add_comm]
      exact Kk
    · rw [if_neg hs] at ab
      refine V_aload_n dX11_trouble_29 rfl rfl ?_
      refine V_getR dX11_trouble_30 fl_X11_37 (by first | assumption | exact ⟨by decide, rfl⟩) (by first | assumption | rfl) ?_
      refine V_iload_n dX11_trouble_33 rfl rfl ?_
      refine V_ial dX11_trouble_34 (by first | assumption | exact ⟨by decide, rfl⟩) (show ix _ i 16 from ⟨rfl, by omega⟩) ?_
      refine V_iload_n dX11_trouble_35 rfl rfl ?_
      refine V_icmp_ne_t (tgt := 43) dX11_trouble_36 (by decide) (by rw [hM.own (by omega)]; exact fun z => hw ((owv_eq (by omega) (by omega)).mp z)) ?_
      refine V_bipush (v := 100) dX11_trouble_43 (by decide) (V_aload_n dX11_trouble_45 rfl rfl ?_)
      refine V_getR dX11_trouble_46 fl_X11_58 (by first | assumption | exact ⟨by decide, rfl⟩) (by first | assumption | rfl) ?_
      refine V_iconst (v := 1) dX11_trouble_49 (by decide) ?_
      refine V_ial dX11_trouble_50 (by first | assumption | exact ⟨by decide, rfl⟩) (show ix _ 1 _ from ⟨rfl, by decide⟩) ?_
      refine V_iload dX11_trouble_51 rfl ?_
      refine V_if_ge_f (tgt := 62) dX11_trouble_53 (by decide) (hs) ?_
      refine V_iload dX11_trouble_56 rfl (V_ineg dX11_trouble_58 (V_goto (tgt := 64) dX11_trouble_59 (by decide) (V_imul dX11_trouble_64 (V_iadd dX11_trouble_65 (V_iload_n dX11_trouble_66 rfl rfl ?_)))))
      refine V_iadd dX11_trouble_67 ?_
      refine V_ireturn dX11_trouble_68 rfl rfl rfl (by decide) (by decide) ?_
      rw [hM.n5, neg0sub, ab, e100, pk_mul, nI_add, nI_add, Nat.add_comm]
      exact Kk
theorem mr_nextFor (hB : KB K) (hM : MB I K) (hR : MR I K) {off : Nat} (hoff : off < 2 ^ 31) {tk : Nat → Nat} (hH : HAV I tk) {i : Nat} (hi : i < K 0 1) (htk : ∀ p, tk p < 2 ^ i) {q : Nat} (hq : q ≤ K 0 0) (Kk : Post (some (.int (flt (nxf (fun p => fre (okf K off) (clashM K) tk p i) (K 0 0 - q) q)))) NC I J (RR co dr cc a1 a2)) : Cal E 2 M_X11_nextFor [.ref 70, .int (nI i), .int (nI q), .int (nI off)] NC I J (RR co dr cc a1 a2) Post := by
  have hP := hB.1.1
  have hQ := hB.1.2.1
  refine Cal_of kn_X11_nextFor rfl (Nat.le_of_ble_eq_true rfl) ?_
  refine V_iload_n dX11_nextFor_0 rfl rfl (V_istore_4 dX11_nextFor_1 (by decide) rfl ?_)
  have key : ∀ r p, p + r = K 0 0 → Post (some (.int (flt (nxf (fun p => fre (okf K off) (clashM K) tk p i) r p)))) NC I J (RR co dr cc a1 a2) → V E 2 M_X11_nextFor Post 3 [some (.ref 70), some (.int (nI i)), some (.int (nI q)), some (.int (nI off)), some (.int (nI p))] [] NC 0 0 I J (RR co dr cc a1 a2) := by
    intro r
    induction r with
    | zero =>
      intro p hp Kz
      refine V_iload dX11_nextFor_3 rfl (V_aload_n dX11_nextFor_5 rfl rfl ?_)
      refine V_getR dX11_nextFor_6 fl_X11_13 (by first | assumption | exact ⟨by decide, rfl⟩) (by first | assumption | rfl) ?_
      refine V_iconst (v := 0) dX11_nextFor_9 (by decide) ?_
      refine V_ial dX11_nextFor_10 (by first | assumption | exact ⟨by decide, rfl⟩) (show ix _ 0 _ from ⟨rfl, by decide⟩) ?_
      refine V_icmp_ge_t (tgt := 65) dX11_nextFor_11 (by decide) (by rw [hM.n0]; exact nI_le (by omega) (by omega)) ?_
      refine V_bipush (v := (-4)) dX11_nextFor_65 (by decide) ?_
      refine V_ireturn dX11_nextFor_67 rfl rfl rfl (by decide) (by decide) ?_
      exact Kz
    | succ r ih =>
      intro p hp Kz
      have e : nxf (fun p => fre (okf K off) (clashM K) tk p i) (r + 1) p = if fre (okf K off) (clashM K) tk p i = true then some p else nxf (fun p => fre (okf K off) (clashM K) tk p i) r (p + 1) := rfl
      rw [e] at Kz
      have ht := htk p
      have hlt : tk p < 2 ^ 8 := Nat.lt_of_lt_of_le ht (Nat.pow_le_pow_right (by decide) (by omega))
      have no : fre (okf K off) (clashM K) tk p i = false → V E 2 M_X11_nextFor Post 59 [some (.ref 70), some (.int (nI i)), some (.int (nI q)), some (.int (nI off)), some (.int (nI p))] [] NC 0 0 I J (RR co dr cc a1 a2) := by
        intro hf
        refine V_iinc_4 (w := 1) dX11_nextFor_59 (by decide) (by decide) rfl (V_goto (tgt := 3) dX11_nextFor_62 (by decide) ?_)
        rw [hf] at Kz
        rw [nI_1]
        exact ih (p + 1) (by omega) Kz
      refine V_iload dX11_nextFor_3 rfl (V_aload_n dX11_nextFor_5 rfl rfl ?_)
      refine V_getR dX11_nextFor_6 fl_X11_13 (by first | assumption | exact ⟨by decide, rfl⟩) (by first | assumption | rfl) ?_
      refine V_iconst (v := 0) dX11_nextFor_9 (by decide) ?_
      refine V_ial dX11_nextFor_10 (by first | assumption | exact ⟨by decide, rfl⟩) (show ix _ 0 _ from ⟨rfl, by decide⟩) ?_
      refine V_icmp_ge_f (tgt := 65) dX11_nextFor_11 (by decide) (by rw [hM.n0]; exact nI_ge (by omega) (by omega)) ?_
      refine V_iload_n dX11_nextFor_14 rfl rfl (V_iload dX11_nextFor_15 rfl ?_)
      refine V_cS2i (M' := M_X11_has) (d' := 1) dX11_nextFor_17 (Or.inl ml_X11_183) kb_X11_has (by first | decide | omega) (by simp [Value.category]) ⟨by decide, by decide⟩ ?_
      refine sp_mhas hoff (by omega) ⟨_, rfl, ?_⟩
      cases ho : off.testBit p
      · refine V_if_ne_f (tgt := 59) dX11_nextFor_20 (by decide) (rfl) ?_
        refine V_aload_n dX11_nextFor_23 rfl rfl ?_
        refine V_getR dX11_nextFor_24 fl_X11_76 (by first | assumption | exact ⟨by decide, rfl⟩) (by first | assumption | rfl) ?_
        refine V_iload dX11_nextFor_27 rfl ?_
        refine V_ial dX11_nextFor_29 (by first | assumption | exact ⟨by decide, rfl⟩) (show ix _ p 10 from ⟨rfl, by omega⟩) ?_
        refine V_iload_n dX11_nextFor_30 rfl rfl ?_
        refine V_cS2i (M' := M_X11_has) (d' := 1) dX11_nextFor_31 (Or.inl ml_X11_183) kb_X11_has (by first | decide | omega) (by simp [Value.category]) ⟨by decide, by decide⟩ ?_
        rw [hR.1 _ (by omega)]
        refine sp_mhas (lt31 (mayM_lt hB _) (by decide)) (by omega) ⟨_, rfl, ?_⟩
        rw [mayM_tb hi]
        cases hm : may K p i
        · refine V_if_eq_t (tgt := 59) dX11_nextFor_34 (by decide) (rfl) ?_
          exact no (by unfold fre okf; rw [hm]; rfl)
        · have hfr : fre (okf K off) (clashM K) tk p i = decide (tk p &&& clashM K i = 0) := by unfold fre okf; rw [hm, ho]; rfl
          have ea : I 97 p &&& (I 94 i ^^^ -1) = nI (tk p &&& clashM K i) := by rw [hH p (by omega), hR.2 i hi, andn_nI, with_clash hi ht]
          have hlt2 : tk p &&& clashM K i < 2 ^ 8 := Nat.and_lt_two_pow _ (clashM_lt K hB i)
          by_cases hz : tk p &&& clashM K i = 0
          · refine V_if_eq_f (tgt := 59) dX11_nextFor_34 (by decide) (by decide) ?_
            refine V_aload_n dX11_nextFor_37 rfl rfl ?_
            refine V_getR dX11_nextFor_38 fl_X11_88 (by first | assumption | exact ⟨by decide, rfl⟩) (by first | assumption | rfl) ?_
            refine V_iload dX11_nextFor_41 rfl ?_
            refine V_ial dX11_nextFor_43 (by first | assumption | exact ⟨by decide, rfl⟩) (show ix _ p 10 from ⟨rfl, by omega⟩) ?_
            refine V_aload_n dX11_nextFor_44 rfl rfl ?_
            refine V_getR dX11_nextFor_45 fl_X11_79 (by first | assumption | exact ⟨by decide, rfl⟩) (by first | assumption | rfl) ?_
            refine V_iload_n dX11_nextFor_48 rfl rfl ?_
            refine V_ial dX11_nextFor_49 (by first | assumption | exact ⟨by decide, rfl⟩) (show ix _ i 8 from ⟨rfl, by omega⟩) ?_
            refine V_iconst (v := (-1)) dX11_nextFor_50 (by decide) (V_ixor dX11_nextFor_51 (V_iand dX11_nextFor_52 ?_))
            refine V_if_ne_f (tgt := 59) dX11_nextFor_53 (by decide) (by rw [ea, hz]; rfl) ?_
            refine V_iload dX11_nextFor_56 rfl ?_
            refine V_ireturn dX11_nextFor_58 rfl rfl rfl (by decide) (by decide) ?_
            rw [hfr, decide_eq_true hz] at Kz
            exact Kz
          · refine V_if_eq_f (tgt := 59) dX11_nextFor_34 (by decide) (by decide) ?_
            refine V_aload_n dX11_nextFor_37 rfl rfl ?_
            refine V_getR dX11_nextFor_38 fl_X11_88 (by first | assumption | exact ⟨by decide, rfl⟩) (by first | assumption | rfl) ?_
            refine V_iload dX11_nextFor_41 rfl ?_
            refine V_ial dX11_nextFor_43 (by first | assumption | exact ⟨by decide, rfl⟩) (show ix _ p 10 from ⟨rfl, by omega⟩) ?_
            refine V_aload_n dX11_nextFor_44 rfl rfl ?_
            refine V_getR dX11_nextFor_45 fl_X11_79 (by first | assumption | exact ⟨by decide, rfl⟩) (by first | assumption | rfl) ?_
            refine V_iload_n dX11_nextFor_48 rfl rfl ?_
            refine V_ial dX11_nextFor_49 (by first | assumption | exact ⟨by decide, rfl⟩) (show ix _ i 8 from ⟨rfl, by omega⟩) ?_
            refine V_iconst (v := (-1)) dX11_nextFor_50 (by decide) (V_ixor dX11_nextFor_51 (V_iand dX11_nextFor_52 ?_))
            refine V_if_ne_t (tgt := 59) dX11_nextFor_53 (by decide) (by rw [ea, ← nI_0]; exact fun z => hz ((nI_eq (by omega) (by omega)).mp z)) ?_
            exact no (by rw [hfr, decide_eq_false hz])
      · refine V_if_ne_t (tgt := 59) dX11_nextFor_20 (by decide) (by decide) ?_
        exact no (by unfold fre okf; rw [ho]; simp)
  exact key (K 0 0 - q) q (by omega) Kk
theorem mr_stepBack {R : TR} {n cut : Nat} (hcut : cut < 2 ^ 31) {i : Nat} (hi : i ≤ 8) (Kk : Post (some (.int (sbk cut i))) n I J R) : Cal E 2 M_X11_stepBack [.int (nI i - 1), .int (nI cut)] n I J R Post := by
  refine Cal_of kn_X11_stepBack rfl (Nat.le_of_ble_eq_true rfl) ?_
  refine V_iload_n dX11_stepBack_0 rfl rfl (V_istore_2 dX11_stepBack_1 (by decide) rfl ?_)
  have key : ∀ x0 : Int32, ∀ i, i ≤ 8 → Post (some (.int (sbk cut i))) n I J R → V E 2 M_X11_stepBack Post 2 [some (.int x0), some (.int (nI cut)), some (.int (nI i - 1))] [] n 0 0 I J R := by
    intro x0 i
    induction i with
    | zero =>
      intro _ Kz
      refine V_iload_n dX11_stepBack_2 rfl rfl ?_
      refine V_if_lt_t (tgt := 20) dX11_stepBack_3 (by decide) (by decide) ?_
      refine V_iload_n dX11_stepBack_20 rfl rfl ?_
      refine V_ireturn dX11_stepBack_21 rfl rfl rfl (by decide) (by decide) ?_
      exact Kz
    | succ i ih =>
      intro hi8 Kz
      rw [m1_nI]
      rw [sbk] at Kz
      refine V_iload_n dX11_stepBack_2 rfl rfl ?_
      refine V_if_lt_f (tgt := 20) dX11_stepBack_3 (by decide) (nI_nn (by omega)) ?_
      refine V_iload_n dX11_stepBack_6 rfl rfl (V_iload_n dX11_stepBack_7 rfl rfl ?_)
      refine V_cS2i (M' := M_X11_has) (d' := 1) dX11_stepBack_8 (Or.inl ml_X11_183) kb_X11_has (by first | decide | omega) (by simp [Value.category]) ⟨by decide, by decide⟩ ?_
      refine sp_mhas hcut (by omega) ⟨_, rfl, ?_⟩
      cases hc : cut.testBit i
      · rw [hc] at Kz
        refine V_if_eq_t (tgt := 20) dX11_stepBack_11 (by decide) (rfl) ?_
        refine V_iload_n dX11_stepBack_20 rfl rfl ?_
        refine V_ireturn dX11_stepBack_21 rfl rfl rfl (by decide) (by decide) ?_
        exact Kz
      · rw [hc] at Kz
        refine V_if_eq_f (tgt := 20) dX11_stepBack_11 (by decide) (by decide) ?_
        refine V_iinc_2 (w := (-1)) dX11_stepBack_14 (by decide) (by decide) rfl (V_goto (tgt := 2) dX11_stepBack_17 (by decide) ?_)
        rw [add_m1]
        exact ih (by omega) Kz
  exact key _ i hi Kk
theorem mr_pileTrouble (hB : KB K) (hM : MB I K) (hD : MDX I 0 D) (hDB : DB D.1 D.2.1) {cut : Nat} (hcut : cut < 2 ^ 31) {pre : List Nat} (hpi : ∀ j, j < K 0 1 → I 95 j = owv (pre.getD j 0)) (hz : ∀ j, j < K 0 1 → (pre.getD j 0 = 0 ↔ cut.testBit j = true)) (hle : ∀ j, pre.getD j 0 ≤ K 0 0) (Kk : Post (some (.int (nI (fb_sm (fun j => if pre.getD j 0 = 0 then 0 else trb K D.1 D.2.1 (pre.getD j 0 - 1) j) (K 0 1))))) NC I J (RR co dr cc a1 a2)) : Cal E 3 M_X11_pileTrouble [.ref 70, .int (nI cut)] NC I J (RR co dr cc a1 a2) Post := by
  have hP := hB.1.1
  have hQ := hB.1.2.1
  refine Cal_of kn_X11_pileTrouble rfl (Nat.le_of_ble_eq_true rfl) ?_
  refine V_iconst (v := 0) dX11_pileTrouble_0 (by decide) (V_istore_2 dX11_pileTrouble_1 (by decide) rfl (V_iconst (v := 0) dX11_pileTrouble_2 (by decide) (V_istore_3 dX11_pileTrouble_3 (by decide) rfl ?_)))
  have key : ∀ k, k ≤ K 0 1 → V E 3 M_X11_pileTrouble Post 4 [some (.ref 70), some (.int (nI cut)), some (.int (nI (fb_sm (fun j => if pre.getD j 0 = 0 then 0 else trb K D.1 D.2.1 (pre.getD j 0 - 1) j) k))), some (.int (nI k))] [] NC 0 0 I J (RR co dr cc a1 a2) := by
    refine loop_up (K 0 1) ?_ ?_
    · refine V_iload_n dX11_pileTrouble_4 rfl rfl (V_aload_n dX11_pileTrouble_5 rfl rfl ?_)
      refine V_getR dX11_pileTrouble_6 fl_X11_22 (by first | assumption | exact ⟨by decide, rfl⟩) (by first | assumption | rfl) ?_
      refine V_iconst (v := 0) dX11_pileTrouble_9 (by decide) ?_
      refine V_ial dX11_pileTrouble_10 (by first | assumption | exact ⟨by decide, rfl⟩) (show ix _ 0 _ from ⟨rfl, by decide⟩) ?_
      refine V_icmp_ge_t (tgt := 46) dX11_pileTrouble_11 (by decide) (by rw [hM.n1]; exact nI_le (by omega) (by omega)) ?_
      refine V_iload_n dX11_pileTrouble_46 rfl rfl ?_
      refine V_ireturn dX11_pileTrouble_47 rfl rfl rfl (by decide) (by decide) ?_
      exact Kk
    · intro k hk ih
      rw [fb_sm_succ] at ih
      refine V_iload_n dX11_pileTrouble_4 rfl rfl (V_aload_n dX11_pileTrouble_5 rfl rfl ?_)
      refine V_getR dX11_pileTrouble_6 fl_X11_22 (by first | assumption | exact ⟨by decide, rfl⟩) (by first | assumption | rfl) ?_
      refine V_iconst (v := 0) dX11_pileTrouble_9 (by decide) ?_
      refine V_ial dX11_pileTrouble_10 (by first | assumption | exact ⟨by decide, rfl⟩) (show ix _ 0 _ from ⟨rfl, by decide⟩) ?_
      refine V_icmp_ge_f (tgt := 46) dX11_pileTrouble_11 (by decide) (by rw [hM.n1]; exact nI_ge hk (by omega)) ?_
      refine V_iload_n dX11_pileTrouble_14 rfl rfl (V_iload_n dX11_pileTrouble_15 rfl rfl (V_iload_n dX11_pileTrouble_16 rfl rfl ?_))
      refine V_cS2i (M' := M_X11_has) (d' := 1) dX11_pileTrouble_17 (Or.inl ml_X11_183) kb_X11_has (by first | decide | omega) (by simp [Value.category]) ⟨by decide, by decide⟩ ?_
      refine sp_mhas hcut (by omega) ⟨_, rfl, ?_⟩
      cases hc : cut.testBit k
      · have hne : ¬ pre.getD k 0 = 0 := fun z => by rw [(hz k hk).mp z] at hc; cases hc
        have hlk := hle k
        rw [if_neg hne] at ih
        refine V_if_eq_t (tgt := 27) dX11_pileTrouble_20 (by decide) (rfl) ?_
        refine V_aload_n dX11_pileTrouble_27 rfl rfl (V_aload_n dX11_pileTrouble_28 rfl rfl ?_)
        refine V_getR dX11_pileTrouble_29 fl_X11_82 (by first | assumption | exact ⟨by decide, rfl⟩) (by first | assumption | rfl) ?_
        refine V_iload_n dX11_pileTrouble_32 rfl rfl ?_
        refine V_ial dX11_pileTrouble_33 (by first | assumption | exact ⟨by decide, rfl⟩) (show ix _ k 8 from ⟨rfl, by omega⟩) ?_
        refine V_iload_n dX11_pileTrouble_34 rfl rfl ?_
        refine V_cV2i (M' := M_X11_trouble) (d' := 2) dX11_pileTrouble_35 (Or.inl ml_X11_209) kb_X11_trouble (by first | assumption | exact ⟨by decide, rfl⟩) (by first | decide | omega) (by simp [Value.category]) ⟨by decide, by decide⟩ ?_
        rw [hpi k hk, owv, if_neg hne]
        refine mr_trouble hB hM hD hDB (by omega) hk ⟨_, rfl, ?_⟩
        refine V_iadd dX11_pileTrouble_38 (V_istore_2 dX11_pileTrouble_39 (by decide) rfl (V_iinc_3 (w := 1) dX11_pileTrouble_40 (by decide) (by decide) rfl (V_goto (tgt := 4) dX11_pileTrouble_43 (by decide) ?_)))
        rw [nI_add, nI_1]
        exact ih
      · rw [if_pos ((hz k hk).mpr hc), Nat.add_zero] at ih
        refine V_if_eq_f (tgt := 27) dX11_pileTrouble_20 (by decide) (by decide) ?_
        refine V_iconst (v := 0) dX11_pileTrouble_23 (by decide) (V_goto (tgt := 38) dX11_pileTrouble_24 (by decide) (V_iadd dX11_pileTrouble_38 (V_istore_2 dX11_pileTrouble_39 (by decide) rfl (V_iinc_3 (w := 1) dX11_pileTrouble_40 (by decide) (by decide) rfl (V_goto (tgt := 4) dX11_pileTrouble_43 (by decide) ?_)))))
        rw [Int32.add_zero, nI_1]
        exact ih
  exact key 0 (Nat.zero_le _)
end
