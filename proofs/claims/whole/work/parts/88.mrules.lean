/-! The reference: who may play what, which parts go together -/
theorem and_eq_andn {a b : Nat} : a &&& b = b ↔ andn b a = 0 := by
  constructor
  · intro h
    refine tb_ext (fun i => ?_)
    have := congrArg (fun z => z.testBit i) h
    simp only [Nat.testBit_and] at this
    rw [andn_tb, Nat.zero_testBit]
    revert this
    cases a.testBit i <;> cases b.testBit i <;> simp
  · intro h
    refine tb_ext (fun i => ?_)
    have := congrArg (fun z => z.testBit i) h
    simp only [andn_tb, Nat.zero_testBit] at this
    rw [Nat.testBit_and]
    revert this
    cases a.testBit i <;> cases b.testBit i <;> simp
theorem or0 (x : Int32) : x ||| 0 = x := by simp
section
variable {E : En} {I : TI} {J : TJ} {co dr : Nat} {cc a1 a2 : Option Nat} {Post : PT} {K : KT} {d : Nat}
theorem K3_lt (hB : KB K) (p : Nat) : K 3 p < 2 ^ 8 := Nat.lt_of_lt_of_le (hB.2.2.1 p) (Nat.pow_le_pow_right (by decide) hB.1.2.1)
theorem mr_mayPlay (hB : KB K) (hM : MB I K) {p i : Nat} (hp : p < K 0 0) (hi : i < K 0 1) (Kk : Post (some (.int (b2i (may K p i)))) NC I J (RR co dr cc a1 a2)) : Cal E 2 M_X11_mayPlay [.ref 70, .int (nI p), .int (nI i)] NC I J (RR co dr cc a1 a2) Post := by
  have hP := hB.1.1
  have hQ := hB.1.2.1
  have hw := (hB.2.2.2.1 i hi).2.1
  have hs2 := (hB.2.1 p hp).2
  have ho := hB.2.2.2.2.1 i
  have t23 : (decide (K 7 i = p + 1) || (K 3 p).testBit i) = true → V E 2 M_X11_mayPlay Post 23 [some (.ref 70), some (.int (nI p)), some (.int (nI i))] [] NC 0 0 I J (RR co dr cc a1 a2) := by
    intro hoo
    have hlt : K 2 p &&& K 5 i < 2 ^ 4 := Nat.and_lt_two_pow _ (by omega)
    unfold may at Kk
    rw [hoo] at Kk
    by_cases hz : andn (K 5 i) (K 2 p) = 0
    · refine V_aload_n dX11_mayPlay_23 rfl rfl ?_
      refine V_getR dX11_mayPlay_24 fl_X11_19 (by first | assumption | exact ⟨by decide, rfl⟩) (by first | assumption | rfl) ?_
      refine V_iload_n dX11_mayPlay_27 rfl rfl ?_
      refine V_ial dX11_mayPlay_28 (by first | assumption | exact ⟨by decide, rfl⟩) (show ix _ p 20 from ⟨rfl, by omega⟩) ?_
      refine V_aload_n dX11_mayPlay_29 rfl rfl ?_
      refine V_getR dX11_mayPlay_30 fl_X11_28 (by first | assumption | exact ⟨by decide, rfl⟩) (by first | assumption | rfl) ?_
      refine V_iload_n dX11_mayPlay_33 rfl rfl ?_
      refine V_ial dX11_mayPlay_34 (by first | assumption | exact ⟨by decide, rfl⟩) (show ix _ i 16 from ⟨rfl, by omega⟩) ?_
      refine V_iand dX11_mayPlay_35 (V_aload_n dX11_mayPlay_36 rfl rfl ?_)
      refine V_getR dX11_mayPlay_37 fl_X11_28 (by first | assumption | exact ⟨by decide, rfl⟩) (by first | assumption | rfl) ?_
      refine V_iload_n dX11_mayPlay_40 rfl rfl ?_
      refine V_ial dX11_mayPlay_41 (by first | assumption | exact ⟨by decide, rfl⟩) (show ix _ i 16 from ⟨rfl, by omega⟩) ?_
      refine V_icmp_ne_f (tgt := 49) dX11_mayPlay_42 (by decide) (by rw [hM.skl hp, hM.wnt hi, and_nI, and_eq_andn.mpr hz]) ?_
      refine V_iconst (v := 1) dX11_mayPlay_45 (by decide) (V_goto (tgt := 50) dX11_mayPlay_46 (by decide) ?_)
      refine V_ireturn dX11_mayPlay_50 rfl rfl rfl (by decide) (by decide) ?_
      rw [show skl K p i = true by unfold skl; simp [hz]] at Kk
      exact Kk
    · refine V_aload_n dX11_mayPlay_23 rfl rfl ?_
      refine V_getR dX11_mayPlay_24 fl_X11_19 (by first | assumption | exact ⟨by decide, rfl⟩) (by first | assumption | rfl) ?_
      refine V_iload_n dX11_mayPlay_27 rfl rfl ?_
      refine V_ial dX11_mayPlay_28 (by first | assumption | exact ⟨by decide, rfl⟩) (show ix _ p 20 from ⟨rfl, by omega⟩) ?_
      refine V_aload_n dX11_mayPlay_29 rfl rfl ?_
      refine V_getR dX11_mayPlay_30 fl_X11_28 (by first | assumption | exact ⟨by decide, rfl⟩) (by first | assumption | rfl) ?_
      refine V_iload_n dX11_mayPlay_33 rfl rfl ?_
      refine V_ial dX11_mayPlay_34 (by first | assumption | exact ⟨by decide, rfl⟩) (show ix _ i 16 from ⟨rfl, by omega⟩) ?_
      refine V_iand dX11_mayPlay_35 (V_aload_n dX11_mayPlay_36 rfl rfl ?_)
      refine V_getR dX11_mayPlay_37 fl_X11_28 (by first | assumption | exact ⟨by decide, rfl⟩) (by first | assumption | rfl) ?_
      refine V_iload_n dX11_mayPlay_40 rfl rfl ?_
      refine V_ial dX11_mayPlay_41 (by first | assumption | exact ⟨by decide, rfl⟩) (show ix _ i 16 from ⟨rfl, by omega⟩) ?_
      refine V_icmp_ne_t (tgt := 49) dX11_mayPlay_42 (by decide) (by rw [hM.skl hp, hM.wnt hi, and_nI]; exact fun z => hz (and_eq_andn.mp ((nI_eq (by omega) (by omega)).mp z))) ?_
      refine V_iconst (v := 0) dX11_mayPlay_49 (by decide) ?_
      refine V_ireturn dX11_mayPlay_50 rfl rfl rfl (by decide) (by decide) ?_
      rw [show skl K p i = false by unfold skl; simp [hz]] at Kk
      exact Kk
  refine Cal_of kn_X11_mayPlay rfl (Nat.le_of_ble_eq_true rfl) ?_
  by_cases h1 : K 7 i = p + 1
  · refine V_aload_n dX11_mayPlay_0 rfl rfl ?_
    refine V_getR dX11_mayPlay_1 fl_X11_37 (by first | assumption | exact ⟨by decide, rfl⟩) (by first | assumption | rfl) ?_
    refine V_iload_n dX11_mayPlay_4 rfl rfl ?_
    refine V_ial dX11_mayPlay_5 (by first | assumption | exact ⟨by decide, rfl⟩) (show ix _ i 16 from ⟨rfl, by omega⟩) ?_
    refine V_iload_n dX11_mayPlay_6 rfl rfl ?_
    refine V_icmp_eq_t (tgt := 23) dX11_mayPlay_7 (by decide) (by rw [hM.own (by omega)]; exact (owv_eq (by omega) (by omega)).mpr h1) ?_
    exact t23 (by simp [h1])
  · refine V_aload_n dX11_mayPlay_0 rfl rfl ?_
    refine V_getR dX11_mayPlay_1 fl_X11_37 (by first | assumption | exact ⟨by decide, rfl⟩) (by first | assumption | rfl) ?_
    refine V_iload_n dX11_mayPlay_4 rfl rfl ?_
    refine V_ial dX11_mayPlay_5 (by first | assumption | exact ⟨by decide, rfl⟩) (show ix _ i 16 from ⟨rfl, by omega⟩) ?_
    refine V_iload_n dX11_mayPlay_6 rfl rfl ?_
    refine V_icmp_eq_f (tgt := 23) dX11_mayPlay_7 (by decide) (by rw [hM.own (by omega)]; exact fun z => h1 ((owv_eq (by omega) (by omega)).mp z)) ?_
    refine V_aload_n dX11_mayPlay_10 rfl rfl ?_
    refine V_getR dX11_mayPlay_11 fl_X11_52 (by first | assumption | exact ⟨by decide, rfl⟩) (by first | assumption | rfl) ?_
    refine V_iload_n dX11_mayPlay_14 rfl rfl ?_
    refine V_ial dX11_mayPlay_15 (by first | assumption | exact ⟨by decide, rfl⟩) (show ix _ p 20 from ⟨rfl, by omega⟩) ?_
    refine V_iload_n dX11_mayPlay_16 rfl rfl ?_
    refine V_cS2i (M' := M_X11_has) (d' := 1) dX11_mayPlay_17 (Or.inl ml_X11_183) kb_X11_has (by first | decide | omega) (by simp [Value.category]) ⟨by decide, by decide⟩ ?_
    rw [hM.knw (by omega)]
    refine sp_mhas (lt31 (K3_lt hB p) (by decide)) (by omega) ⟨_, rfl, ?_⟩
    cases hk : (K 3 p).testBit i
    · refine V_if_eq_t (tgt := 49) dX11_mayPlay_20 (by decide) (rfl) ?_
      refine V_iconst (v := 0) dX11_mayPlay_49 (by decide) ?_
      refine V_ireturn dX11_mayPlay_50 rfl rfl rfl (by decide) (by decide) ?_
      unfold may at Kk
      rw [hk, decide_eq_false h1] at Kk
      exact Kk
    · refine V_if_eq_f (tgt := 49) dX11_mayPlay_20 (by decide) (by decide) ?_
      exact t23 (by simp [hk])
theorem mr_layMays (hB : KB K) (hM : MB I K) {p : Nat} (hp : p < K 0 0) (Kk : Post none NC (up2 I 93 p (nI (mayM K p))) J (RR co dr cc a1 a2)) : Cal E 3 M_X11_layMays [.ref 70, .int (nI p)] NC I J (RR co dr cc a1 a2) Post := by
  have hP := hB.1.1
  have hQ := hB.1.2.1
  refine Cal_of kn_X11_layMays rfl (Nat.le_of_ble_eq_true rfl) ?_
  refine V_aload_n dX11_layMays_0 rfl rfl ?_
  refine V_getR dX11_layMays_1 fl_X11_76 (by first | assumption | exact ⟨by decide, rfl⟩) (by first | assumption | rfl) ?_
  refine V_iload_n dX11_layMays_4 rfl rfl (V_iconst (v := 0) dX11_layMays_5 (by decide) ?_)
  refine V_ias dX11_layMays_6 (by first | assumption | exact ⟨by decide, rfl⟩) (show ix _ p 10 from ⟨rfl, by omega⟩) ?_
  refine V_iconst (v := 0) dX11_layMays_7 (by decide) (V_istore_2 dX11_layMays_8 (by decide) rfl ?_)
  have key : ∀ k, k ≤ K 0 1 → V E 3 M_X11_layMays Post 9 [some (.ref 70), some (.int (nI p)), some (.int (nI k))] [] NC 0 0 (up2 I 93 p (nI (mk (fun i => may K p i) k))) J (RR co dr cc a1 a2) := by
    refine loop_up (K 0 1) ?_ ?_
    · refine V_iload_n dX11_layMays_9 rfl rfl (V_aload_n dX11_layMays_10 rfl rfl ?_)
      refine V_getR dX11_layMays_11 fl_X11_22 (by first | assumption | exact ⟨by decide, rfl⟩) (by first | assumption | rfl) ?_
      refine V_iconst (v := 0) dX11_layMays_14 (by decide) ?_
      refine V_ial dX11_layMays_15 (by first | assumption | exact ⟨by decide, rfl⟩) (show ix _ 0 _ from ⟨rfl, by decide⟩) ?_
      refine V_icmp_ge_t (tgt := 50) dX11_layMays_16 (by decide) (by rw [u2n (by omega), hM.n1]; exact nI_le (by omega) (by omega)) ?_
      refine V_return dX11_layMays_50 rfl rfl (by decide) (by decide) ?_
      exact Kk
    · intro k hk ih
      have hM2 : MB (up2 I 93 p (nI (mk (fun i => may K p i) k))) K := hM.all hB (fun x y a b => u2n (by omega))
      refine V_iload_n dX11_layMays_9 rfl rfl (V_aload_n dX11_layMays_10 rfl rfl ?_)
      refine V_getR dX11_layMays_11 fl_X11_22 (by first | assumption | exact ⟨by decide, rfl⟩) (by first | assumption | rfl) ?_
      refine V_iconst (v := 0) dX11_layMays_14 (by decide) ?_
      refine V_ial dX11_layMays_15 (by first | assumption | exact ⟨by decide, rfl⟩) (show ix _ 0 _ from ⟨rfl, by decide⟩) ?_
      refine V_icmp_ge_f (tgt := 50) dX11_layMays_16 (by decide) (by rw [u2n (by omega), hM.n1]; exact nI_ge hk (by omega)) ?_
      refine V_aload_n dX11_layMays_19 rfl rfl ?_
      refine V_getR dX11_layMays_20 fl_X11_76 (by first | assumption | exact ⟨by decide, rfl⟩) (by first | assumption | rfl) ?_
      refine V_iload_n dX11_layMays_23 rfl rfl (V_dup2 dX11_layMays_24 rfl rfl ?_)
      refine V_ial dX11_layMays_25 (by first | assumption | exact ⟨by decide, rfl⟩) (show ix _ p 10 from ⟨rfl, by omega⟩) ?_
      refine V_aload_n dX11_layMays_26 rfl rfl (V_iload_n dX11_layMays_27 rfl rfl (V_iload_n dX11_layMays_28 rfl rfl ?_))
      refine V_cV2i (M' := M_X11_mayPlay) (d' := 2) dX11_layMays_29 (Or.inl ml_X11_192) kb_X11_mayPlay (by first | assumption | exact ⟨by decide, rfl⟩) (by first | decide | omega) (by simp [Value.category]) ⟨by decide, by decide⟩ ?_
      rw [u2e]
      refine mr_mayPlay hB hM2 hp hk ⟨_, rfl, ?_⟩
      cases hm : may K p k
      · refine V_if_eq_t (tgt := 41) dX11_layMays_32 (by decide) (rfl) ?_
        refine V_iconst (v := 0) dX11_layMays_41 (by decide) (V_ior dX11_layMays_42 ?_)
        refine V_ias dX11_layMays_43 (by first | assumption | exact ⟨by decide, rfl⟩) (show ix _ p 10 from ⟨rfl, by omega⟩) ?_
        refine V_iinc_2 (w := 1) dX11_layMays_44 (by decide) (by decide) rfl (V_goto (tgt := 9) dX11_layMays_47 (by decide) ?_)
        rw [or0, up2_up2, nI_1, mk_f (f := fun i => may K p i) (by omega) hm]
        exact ih
      · refine V_if_eq_f (tgt := 41) dX11_layMays_32 (by decide) (by decide) ?_
        refine V_iconst (v := 1) dX11_layMays_35 (by decide) (V_iload_n dX11_layMays_36 rfl rfl (V_ishl dX11_layMays_37 (V_goto (tgt := 42) dX11_layMays_38 (by decide) (V_ior dX11_layMays_42 ?_))))
        refine V_ias dX11_layMays_43 (by first | assumption | exact ⟨by decide, rfl⟩) (show ix _ p 10 from ⟨rfl, by omega⟩) ?_
        refine V_iinc_2 (w := 1) dX11_layMays_44 (by decide) (by decide) rfl (V_goto (tgt := 9) dX11_layMays_47 (by decide) ?_)
        rw [up2_up2, nI_1, mk_t (f := fun i => may K p i) (by omega) hm]
        exact ih
  exact key 0 (Nat.zero_le _)
theorem mr_areBoth (hB : KB K) (hM : MB I K) {i j : Nat} (hi : i < 8) (hj : j < 8) (hij : i ≠ j) (Kk : Post (some (.int (b2i (!cls K i j)))) NC I J (RR co dr cc a1 a2)) : Cal E 2 M_X11_areBoth [.ref 70, .int (nI i), .int (nI j)] NC I J (RR co dr cc a1 a2) Post := by
  have hS := hB.1.2.2.1
  have hQ := hB.1.2.1
  have hch : K 0 4 ≤ 99 := hB.1.2.2.2.2.1
  refine Cal_of kn_X11_areBoth rfl (Nat.le_of_ble_eq_true rfl) ?_
  refine V_bipush (v := (-4)) dX11_areBoth_0 (by decide) (V_istore_3 dX11_areBoth_2 (by decide) rfl (V_iconst (v := 0) dX11_areBoth_3 (by decide) (V_istore_4 dX11_areBoth_4 (by decide) rfl (V_iconst (v := 0) dX11_areBoth_6 (by decide) (V_istore_5 dX11_areBoth_7 (by decide) rfl ?_)))))
  have key : ∀ r s last since, s + r = K 0 2 → last ≤ 2 → since ≤ 99 * s → Post (some (.int (b2i (!clsL K i j r s last since)))) NC I J (RR co dr cc a1 a2) → V E 2 M_X11_areBoth Post 9 [some (.ref 70), some (.int (nI i)), some (.int (nI j)), some (.int (lst i j last)), some (.int (nI since)), some (.int (nI s)), none, none, none] [] NC 0 0 I J (RR co dr cc a1 a2) := by
    intro r
    induction r with
    | zero =>
      intro s last since hs hl hsn Kz
      refine V_iload dX11_areBoth_9 rfl (V_aload_n dX11_areBoth_11 rfl rfl ?_)
      refine V_getR dX11_areBoth_12 fl_X11_40 (by first | assumption | exact ⟨by decide, rfl⟩) (by first | assumption | rfl) ?_
      refine V_iconst (v := 0) dX11_areBoth_15 (by decide) ?_
      refine V_ial dX11_areBoth_16 (by first | assumption | exact ⟨by decide, rfl⟩) (show ix _ 0 _ from ⟨rfl, by decide⟩) ?_
      refine V_icmp_ge_t (tgt := 132) dX11_areBoth_17 (by decide) (by rw [hM.n2]; exact nI_le (by omega) (by omega)) ?_
      refine V_iconst (v := 1) dX11_areBoth_132 (by decide) ?_
      refine V_ireturn dX11_areBoth_133 rfl rfl rfl (by decide) (by decide) ?_
      exact Kz
    | succ r ih =>
      intro s last since hs hl hsn Kz
      have hsS : s < K 0 2 := by omega
      have hm99 := (hB.2.2.2.2.2.1 s hsS).2
      have hlt := lt31 (hB.2.2.2.2.2.1 s hsS).1 (show K 0 1 ≤ 31 by omega)
      refine V_iload dX11_areBoth_9 rfl (V_aload_n dX11_areBoth_11 rfl rfl ?_)
      refine V_getR dX11_areBoth_12 fl_X11_40 (by first | assumption | exact ⟨by decide, rfl⟩) (by first | assumption | rfl) ?_
      refine V_iconst (v := 0) dX11_areBoth_15 (by decide) ?_
      refine V_ial dX11_areBoth_16 (by first | assumption | exact ⟨by decide, rfl⟩) (show ix _ 0 _ from ⟨rfl, by decide⟩) ?_
      refine V_icmp_ge_f (tgt := 132) dX11_areBoth_17 (by decide) (by rw [hM.n2]; exact nI_ge (by omega) (by omega)) ?_
      refine V_aload_n dX11_areBoth_20 rfl rfl ?_
      refine V_getR dX11_areBoth_21 fl_X11_43 (by first | assumption | exact ⟨by decide, rfl⟩) (by first | assumption | rfl) ?_
      refine V_iload dX11_areBoth_24 rfl ?_
      refine V_ial dX11_areBoth_26 (by first | assumption | exact ⟨by decide, rfl⟩) (show ix _ s 20 from ⟨rfl, by omega⟩) ?_
      refine V_iload_n dX11_areBoth_27 rfl rfl ?_
      refine V_cS2i (M' := M_X11_has) (d' := 1) dX11_areBoth_28 (Or.inl ml_X11_183) kb_X11_has (by first | decide | omega) (by simp [Value.category]) ⟨by decide, by decide⟩ ?_
      rw [hM.scn hsS]
      refine sp_mhas hlt (by omega) ⟨_, rfl, ?_⟩
      refine V_istore_6 dX11_areBoth_31 (by decide) rfl (V_aload_n dX11_areBoth_33 rfl rfl ?_)
      refine V_getR dX11_areBoth_34 fl_X11_43 (by first | assumption | exact ⟨by decide, rfl⟩) (by first | assumption | rfl) ?_
      refine V_iload dX11_areBoth_37 rfl ?_
      refine V_ial dX11_areBoth_39 (by first | assumption | exact ⟨by decide, rfl⟩) (show ix _ s 20 from ⟨rfl, by omega⟩) ?_
      refine V_iload_n dX11_areBoth_40 rfl rfl ?_
      refine V_cS2i (M' := M_X11_has) (d' := 1) dX11_areBoth_41 (Or.inl ml_X11_183) kb_X11_has (by first | decide | omega) (by simp [Value.category]) ⟨by decide, by decide⟩ ?_
      rw [hM.scn hsS]
      refine sp_mhas hlt (by omega) ⟨_, rfl, ?_⟩
      refine V_istore_7 dX11_areBoth_44 (by decide) rfl ?_
      have t80 : ∀ (A B : Bool) (w : Nat), w = 1 ∨ w = 2 → Post (some (.int (b2i (!(if last ≠ 0 ∧ last ≠ w ∧ since < K 0 4 then true else clsL K i j r (s + 1) w 0))))) NC I J (RR co dr cc a1 a2) → V E 2 M_X11_areBoth Post 80 [some (.ref 70), some (.int (nI i)), some (.int (nI j)), some (.int (lst i j last)), some (.int (nI since)), some (.int (nI s)), some (.int (b2i A)), some (.int (b2i B)), some (.int (lst i j w))] [] NC 0 0 I J (RR co dr cc a1 a2) := by
        intro A B w hw hp
        have go : ¬ (last ≠ 0 ∧ last ≠ w ∧ since < K 0 4) → V E 2 M_X11_areBoth Post 105 [some (.ref 70), some (.int (nI i)), some (.int (nI j)), some (.int (lst i j last)), some (.int (nI since)), some (.int (nI s)), some (.int (b2i A)), some (.int (b2i B)), some (.int (lst i j w))] [] NC 0 0 I J (RR co dr cc a1 a2) := by
          intro hz
          rw [if_neg hz] at hp
          refine V_iload dX11_areBoth_105 rfl (V_istore_3 dX11_areBoth_107 (by decide) rfl (V_iconst (v := 0) dX11_areBoth_108 (by decide) (V_istore_4 dX11_areBoth_109 (by decide) rfl (V_goto (tgt := 126) dX11_areBoth_111 (by decide) (V_iinc_5 (w := 1) dX11_areBoth_126 (by decide) (by decide) rfl ?_)))))
          refine V_goto (tgt := 9) dX11_areBoth_129 (by decide) ?_
          rw [nI_1]
          exact V_forget (ih (s + 1) w 0 (by omega) (by omega) (by omega) hp) (by simp [lessb, nI_0])
        by_cases h0 : last = 0
        · refine V_iload_n dX11_areBoth_80 rfl rfl (V_bipush (v := (-4)) dX11_areBoth_81 (by decide) ?_)
          refine V_icmp_eq_t (tgt := 105) dX11_areBoth_83 (by decide) ((lst_ne4 hi hj).mpr h0) ?_
          exact go (fun z => z.1 h0)
        · by_cases h1 : last = w
          · refine V_iload_n dX11_areBoth_80 rfl rfl (V_bipush (v := (-4)) dX11_areBoth_81 (by decide) ?_)
            refine V_icmp_eq_f (tgt := 105) dX11_areBoth_83 (by decide) (fun z => h0 ((lst_ne4 hi hj).mp z)) ?_
            refine V_iload_n dX11_areBoth_86 rfl rfl (V_iload dX11_areBoth_87 rfl ?_)
            refine V_icmp_eq_t (tgt := 105) dX11_areBoth_89 (by decide) (by rw [h1]) ?_
            exact go (fun z => z.2.1 h1)
          · by_cases h2 : since < K 0 4
            · refine V_iload_n dX11_areBoth_80 rfl rfl (V_bipush (v := (-4)) dX11_areBoth_81 (by decide) ?_)
              refine V_icmp_eq_f (tgt := 105) dX11_areBoth_83 (by decide) (fun z => h0 ((lst_ne4 hi hj).mp z)) ?_
              refine V_iload_n dX11_areBoth_86 rfl rfl (V_iload dX11_areBoth_87 rfl ?_)
              refine V_icmp_eq_f (tgt := 105) dX11_areBoth_89 (by decide) (fun z => h1 ((lst_eq hi hj hij (by omega) hw).mp z)) ?_
              refine V_iload dX11_areBoth_92 rfl (V_aload_n dX11_areBoth_94 rfl rfl ?_)
              refine V_getR dX11_areBoth_95 fl_X11_58 (by first | assumption | exact ⟨by decide, rfl⟩) (by first | assumption | rfl) ?_
              refine V_iconst (v := 0) dX11_areBoth_98 (by decide) ?_
              refine V_ial dX11_areBoth_99 (by first | assumption | exact ⟨by decide, rfl⟩) (show ix _ 0 _ from ⟨rfl, by decide⟩) ?_
              refine V_icmp_ge_f (tgt := 105) dX11_areBoth_100 (by decide) (by rw [hM.n4]; exact nI_ge h2 (by omega)) ?_
              refine V_iconst (v := 0) dX11_areBoth_103 (by decide) ?_
              refine V_ireturn dX11_areBoth_104 rfl rfl rfl (by decide) (by decide) ?_
              rw [if_pos ⟨h0, h1, h2⟩] at hp
              exact hp
            · refine V_iload_n dX11_areBoth_80 rfl rfl (V_bipush (v := (-4)) dX11_areBoth_81 (by decide) ?_)
              refine V_icmp_eq_f (tgt := 105) dX11_areBoth_83 (by decide) (fun z => h0 ((lst_ne4 hi hj).mp z)) ?_
              refine V_iload_n dX11_areBoth_86 rfl rfl (V_iload dX11_areBoth_87 rfl ?_)
              refine V_icmp_eq_f (tgt := 105) dX11_areBoth_89 (by decide) (fun z => h1 ((lst_eq hi hj hij (by omega) hw).mp z)) ?_
              refine V_iload dX11_areBoth_92 rfl (V_aload_n dX11_areBoth_94 rfl rfl ?_)
              refine V_getR dX11_areBoth_95 fl_X11_58 (by first | assumption | exact ⟨by decide, rfl⟩) (by first | assumption | rfl) ?_
              refine V_iconst (v := 0) dX11_areBoth_98 (by decide) ?_
              refine V_ial dX11_areBoth_99 (by first | assumption | exact ⟨by decide, rfl⟩) (show ix _ 0 _ from ⟨rfl, by decide⟩) ?_
              refine V_icmp_ge_t (tgt := 105) dX11_areBoth_100 (by decide) (by rw [hM.n4]; exact nI_le (by omega) (by omega)) ?_
              exact go (fun z => h2 z.2.2)
      unfold clsL at Kz
      cases ha : (K 9 s).testBit i <;> cases hb : (K 9 s).testBit j
      · rw [ha, hb, if_pos ⟨rfl, rfl⟩] at Kz
        refine V_iload dX11_areBoth_46 rfl ?_
        refine V_if_eq_t (tgt := 58) dX11_areBoth_48 (by decide) (rfl) ?_
        refine V_iload dX11_areBoth_58 rfl ?_
        refine V_if_ne_f (tgt := 68) dX11_areBoth_60 (by decide) (rfl) ?_
        refine V_iload dX11_areBoth_63 rfl ?_
        refine V_if_eq_t (tgt := 114) dX11_areBoth_65 (by decide) (rfl) ?_
        refine V_iload dX11_areBoth_114 rfl (V_aload_n dX11_areBoth_116 rfl rfl ?_)
        refine V_getR dX11_areBoth_117 fl_X11_46 (by first | assumption | exact ⟨by decide, rfl⟩) (by first | assumption | rfl) ?_
        refine V_iload dX11_areBoth_120 rfl ?_
        refine V_ial dX11_areBoth_122 (by first | assumption | exact ⟨by decide, rfl⟩) (show ix _ s 20 from ⟨rfl, by omega⟩) ?_
        refine V_iadd dX11_areBoth_123 (V_istore_4 dX11_areBoth_124 (by decide) rfl (V_iinc_5 (w := 1) dX11_areBoth_126 (by decide) (by decide) rfl (V_goto (tgt := 9) dX11_areBoth_129 (by decide) ?_)))
        rw [hM.mnt hsS, nI_add, nI_1]
        exact V_forget (ih (s + 1) last (since + K 10 s) (by omega) hl (by omega) Kz) (by simp [lessb, nI_0])
      · rw [ha, hb, if_neg (by simp)] at Kz
        refine V_iload dX11_areBoth_46 rfl ?_
        refine V_if_eq_t (tgt := 58) dX11_areBoth_48 (by decide) (rfl) ?_
        refine V_iload dX11_areBoth_58 rfl ?_
        refine V_if_ne_f (tgt := 68) dX11_areBoth_60 (by decide) (rfl) ?_
        refine V_iload dX11_areBoth_63 rfl ?_
        refine V_if_eq_f (tgt := 114) dX11_areBoth_65 (by decide) (by decide) ?_
        refine V_iload dX11_areBoth_68 rfl ?_
        refine V_if_eq_t (tgt := 77) dX11_areBoth_70 (by decide) (rfl) ?_
        refine V_iload_n dX11_areBoth_77 rfl rfl (V_istore_8 dX11_areBoth_78 (by decide) rfl ?_)
        refine t80 false true 2 (Or.inr rfl) ?_
        simpa using Kz
      · rw [ha, hb, if_neg (by simp)] at Kz
        refine V_iload dX11_areBoth_46 rfl ?_
        refine V_if_eq_f (tgt := 58) dX11_areBoth_48 (by decide) (by decide) ?_
        refine V_iload dX11_areBoth_51 rfl ?_
        refine V_if_eq_t (tgt := 58) dX11_areBoth_53 (by decide) (rfl) ?_
        refine V_iload dX11_areBoth_58 rfl ?_
        refine V_if_ne_t (tgt := 68) dX11_areBoth_60 (by decide) (by decide) ?_
        refine V_iload dX11_areBoth_68 rfl ?_
        refine V_if_eq_f (tgt := 77) dX11_areBoth_70 (by decide) (by decide) ?_
        refine V_iload_n dX11_areBoth_73 rfl rfl (V_goto (tgt := 78) dX11_areBoth_74 (by decide) (V_istore_8 dX11_areBoth_78 (by decide) rfl ?_))
        refine t80 true false 1 (Or.inl rfl) ?_
        simpa using Kz
      · rw [ha, hb, if_neg (by simp), if_pos (Or.inl ⟨rfl, rfl⟩)] at Kz
        refine V_iload dX11_areBoth_46 rfl ?_
        refine V_if_eq_f (tgt := 58) dX11_areBoth_48 (by decide) (by decide) ?_
        refine V_iload dX11_areBoth_51 rfl ?_
        refine V_if_eq_f (tgt := 58) dX11_areBoth_53 (by decide) (by decide) ?_
        refine V_iconst (v := 0) dX11_areBoth_56 (by decide) ?_
        refine V_ireturn dX11_areBoth_57 rfl rfl rfl (by decide) (by decide) ?_
        exact Kz
  exact key (K 0 2) 0 0 0 (by omega) (by omega) (by omega) Kk
theorem withM_lt (hB : KB K) (i : Nat) : withM K i < 2 ^ 8 := Nat.lt_of_lt_of_le (mk_lt _ _) (Nat.pow_le_pow_right (by decide) hB.1.2.1)
theorem mr_layRules (hB : KB K) (hM : MB I K) (Kk : ∀ I', (∀ x y, x ≠ 93 → x ≠ 94 → I' x y = I x y) → MR I' K → Post none NC I' J (RR co dr cc a1 a2)) : Cal E 4 M_X11_layRules [.ref 70] NC I J (RR co dr cc a1 a2) Post := by
  have hP := hB.1.1
  have hQ := hB.1.2.1
  refine Cal_of kn_X11_layRules rfl (Nat.le_of_ble_eq_true rfl) ?_
  refine V_iconst (v := 0) dX11_layRules_0 (by decide) (V_istore_1 dX11_layRules_1 (by decide) rfl ?_)
  have key : ∀ k, k ≤ K 0 0 → ∀ I1, (∀ x y, x ≠ 93 → I1 x y = I x y) → (∀ p, p < k → I1 93 p = nI (mayM K p)) → V E 4 M_X11_layRules Post 2 [some (.ref 70), some (.int (nI k)), none] [] NC 0 0 I1 J (RR co dr cc a1 a2) := by
    refine loop_up (K 0 0) ?_ ?_
    · intro I1 h1 h2
      refine V_iload_n dX11_layRules_2 rfl rfl (V_aload_n dX11_layRules_3 rfl rfl ?_)
      refine V_getR dX11_layRules_4 fl_X11_13 (by first | assumption | exact ⟨by decide, rfl⟩) (by first | assumption | rfl) ?_
      refine V_iconst (v := 0) dX11_layRules_7 (by decide) ?_
      refine V_ial dX11_layRules_8 (by first | assumption | exact ⟨by decide, rfl⟩) (show ix _ 0 _ from ⟨rfl, by decide⟩) ?_
      refine V_icmp_ge_t (tgt := 23) dX11_layRules_9 (by decide) (by rw [h1 _ _ (by omega), hM.n0]; exact nI_le (by omega) (by omega)) ?_
      refine V_iconst (v := 0) dX11_layRules_23 (by decide) (V_istore_1 dX11_layRules_24 (by decide) rfl ?_)
      have key2 : ∀ k, k ≤ K 0 1 → ∀ I2, (∀ x y, x ≠ 94 → I2 x y = I1 x y) → (∀ i, i < k → I2 94 i = nI (withM K i)) → V E 4 M_X11_layRules Post 25 [some (.ref 70), some (.int (nI k)), none] [] NC 0 0 I2 J (RR co dr cc a1 a2) := by
        refine loop_up (K 0 1) ?_ ?_
        · intro I2 g1 g2
          refine V_iload_n dX11_layRules_25 rfl rfl (V_aload_n dX11_layRules_26 rfl rfl ?_)
          refine V_getR dX11_layRules_27 fl_X11_22 (by first | assumption | exact ⟨by decide, rfl⟩) (by first | assumption | rfl) ?_
          refine V_iconst (v := 0) dX11_layRules_30 (by decide) ?_
          refine V_ial dX11_layRules_31 (by first | assumption | exact ⟨by decide, rfl⟩) (show ix _ 0 _ from ⟨rfl, by decide⟩) ?_
          refine V_icmp_ge_t (tgt := 96) dX11_layRules_32 (by decide) (by rw [g1 _ _ (by omega), h1 _ _ (by omega), hM.n1]; exact nI_le (by omega) (by omega)) ?_
          refine V_return dX11_layRules_96 rfl rfl (by decide) (by decide) ?_
          exact Kk I2 (fun x y z1 z2 => by rw [g1 _ _ z2, h1 _ _ z1]) ⟨fun p hp => by rw [g1 _ _ (by omega)]; exact h2 p hp, g2⟩
        · intro k hk ih I2 g1 g2
          refine V_iload_n dX11_layRules_25 rfl rfl (V_aload_n dX11_layRules_26 rfl rfl ?_)
          refine V_getR dX11_layRules_27 fl_X11_22 (by first | assumption | exact ⟨by decide, rfl⟩) (by first | assumption | rfl) ?_
          refine V_iconst (v := 0) dX11_layRules_30 (by decide) ?_
          refine V_ial dX11_layRules_31 (by first | assumption | exact ⟨by decide, rfl⟩) (show ix _ 0 _ from ⟨rfl, by decide⟩) ?_
          refine V_icmp_ge_f (tgt := 96) dX11_layRules_32 (by decide) (by rw [g1 _ _ (by omega), h1 _ _ (by omega), hM.n1]; exact nI_ge hk (by omega)) ?_
          refine V_aload_n dX11_layRules_35 rfl rfl ?_
          refine V_getR dX11_layRules_36 fl_X11_79 (by first | assumption | exact ⟨by decide, rfl⟩) (by first | assumption | rfl) ?_
          refine V_iload_n dX11_layRules_39 rfl rfl (V_iconst (v := 0) dX11_layRules_40 (by decide) ?_)
          refine V_ias dX11_layRules_41 (by first | assumption | exact ⟨by decide, rfl⟩) (show ix _ k 8 from ⟨rfl, by omega⟩) ?_
          refine V_iconst (v := 0) dX11_layRules_42 (by decide) (V_istore_2 dX11_layRules_43 (by decide) rfl ?_)
          have key3 : ∀ j, j ≤ K 0 1 → V E 4 M_X11_layRules Post 44 [some (.ref 70), some (.int (nI k)), some (.int (nI j))] [] NC 0 0 (up2 I2 94 k (nI (mk (fun j => decide (k ≠ j) && !cls K k j) j))) J (RR co dr cc a1 a2) := by
            refine loop_up (K 0 1) ?_ ?_
            · refine V_iload_n dX11_layRules_44 rfl rfl (V_aload_n dX11_layRules_45 rfl rfl ?_)
              refine V_getR dX11_layRules_46 fl_X11_22 (by first | assumption | exact ⟨by decide, rfl⟩) (by first | assumption | rfl) ?_
              refine V_iconst (v := 0) dX11_layRules_49 (by decide) ?_
              refine V_ial dX11_layRules_50 (by first | assumption | exact ⟨by decide, rfl⟩) (show ix _ 0 _ from ⟨rfl, by decide⟩) ?_
              refine V_icmp_ge_t (tgt := 90) dX11_layRules_51 (by decide) (by rw [u2n (by omega), g1 _ _ (by omega), h1 _ _ (by omega), hM.n1]; exact nI_le (by omega) (by omega)) ?_
              refine V_iinc_1 (w := 1) dX11_layRules_90 (by decide) (by decide) rfl (V_goto (tgt := 25) dX11_layRules_93 (by decide) ?_)
              rw [nI_1]
              refine V_forget (ih _ (fun x y z => by rw [u2n (by omega)]; exact g1 x y z) (fun i hi => ?_)) (by simp [lessb])
              by_cases hik : i = k
              · subst hik; rw [u2e]; rfl
              · rw [u2n (by omega)]; exact g2 i (by omega)
            · intro j hj ih3
              have hM2 : MB (up2 I2 94 k (nI (mk (fun j => decide (k ≠ j) && !cls K k j) j))) K := hM.all hB (fun x y a b => by rw [u2n (by omega), g1 _ _ (by omega), h1 _ _ (by omega)])
              by_cases hkj : k = j
              · refine V_iload_n dX11_layRules_44 rfl rfl (V_aload_n dX11_layRules_45 rfl rfl ?_)
                refine V_getR dX11_layRules_46 fl_X11_22 (by first | assumption | exact ⟨by decide, rfl⟩) (by first | assumption | rfl) ?_
                refine V_iconst (v := 0) dX11_layRules_49 (by decide) ?_
                refine V_ial dX11_layRules_50 (by first | assumption | exact ⟨by decide, rfl⟩) (show ix _ 0 _ from ⟨rfl, by decide⟩) ?_
                refine V_icmp_ge_f (tgt := 90) dX11_layRules_51 (by decide) (by rw [u2n (by omega), g1 _ _ (by omega), h1 _ _ (by omega), hM.n1]; exact nI_ge hj (by omega)) ?_
                refine V_aload_n dX11_layRules_54 rfl rfl ?_
                refine V_getR dX11_layRules_55 fl_X11_79 (by first | assumption | exact ⟨by decide, rfl⟩) (by first | assumption | rfl) ?_
                refine V_iload_n dX11_layRules_58 rfl rfl (V_dup2 dX11_layRules_59 rfl rfl ?_)
                refine V_ial dX11_layRules_60 (by first | assumption | exact ⟨by decide, rfl⟩) (show ix _ k 8 from ⟨rfl, by omega⟩) ?_
                refine V_iload_n dX11_layRules_61 rfl rfl (V_iload_n dX11_layRules_62 rfl rfl ?_)
                refine V_icmp_eq_t (tgt := 81) dX11_layRules_63 (by decide) (by rw [hkj]) ?_
                refine V_iconst (v := 0) dX11_layRules_81 (by decide) (V_ior dX11_layRules_82 ?_)
                refine V_ias dX11_layRules_83 (by first | assumption | exact ⟨by decide, rfl⟩) (show ix _ k 8 from ⟨rfl, by omega⟩) ?_
                refine V_iinc_2 (w := 1) dX11_layRules_84 (by decide) (by decide) rfl (V_goto (tgt := 44) dX11_layRules_87 (by decide) ?_)
                rw [u2e, or0, up2_up2, nI_1, mk_f (f := fun j => decide (k ≠ j) && !cls K k j) (by omega) (by simp [hkj])]
                exact ih3
              · refine V_iload_n dX11_layRules_44 rfl rfl (V_aload_n dX11_layRules_45 rfl rfl ?_)
                refine V_getR dX11_layRules_46 fl_X11_22 (by first | assumption | exact ⟨by decide, rfl⟩) (by first | assumption | rfl) ?_
                refine V_iconst (v := 0) dX11_layRules_49 (by decide) ?_
                refine V_ial dX11_layRules_50 (by first | assumption | exact ⟨by decide, rfl⟩) (show ix _ 0 _ from ⟨rfl, by decide⟩) ?_
                refine V_icmp_ge_f (tgt := 90) dX11_layRules_51 (by decide) (by rw [u2n (by omega), g1 _ _ (by omega), h1 _ _ (by omega), hM.n1]; exact nI_ge hj (by omega)) ?_
                refine V_aload_n dX11_layRules_54 rfl rfl ?_
                refine V_getR dX11_layRules_55 fl_X11_79 (by first | assumption | exact ⟨by decide, rfl⟩) (by first | assumption | rfl) ?_
                refine V_iload_n dX11_layRules_58 rfl rfl (V_dup2 dX11_layRules_59 rfl rfl ?_)
                refine V_ial dX11_layRules_60 (by first | assumption | exact ⟨by decide, rfl⟩) (show ix _ k 8 from ⟨rfl, by omega⟩) ?_
                refine V_iload_n dX11_layRules_61 rfl rfl (V_iload_n dX11_layRules_62 rfl rfl ?_)
                refine V_icmp_eq_f (tgt := 81) dX11_layRules_63 (by decide) (fun z => hkj ((nI_eq (by omega) (by omega)).mp z)) ?_
                refine V_aload_n dX11_layRules_66 rfl rfl (V_iload_n dX11_layRules_67 rfl rfl (V_iload_n dX11_layRules_68 rfl rfl ?_))
                refine V_cV2i (M' := M_X11_areBoth) (d' := 2) dX11_layRules_69 (Or.inl ml_X11_189) kb_X11_areBoth (by first | assumption | exact ⟨by decide, rfl⟩) (by first | decide | omega) (by simp [Value.category]) ⟨by decide, by decide⟩ ?_
                rw [u2e]
                refine mr_areBoth hB hM2 (by omega) (by omega) hkj ⟨_, rfl, ?_⟩
                cases hcl : cls K k j
                · refine V_if_eq_f (tgt := 81) dX11_layRules_72 (by decide) (by decide) ?_
                  refine V_iconst (v := 1) dX11_layRules_75 (by decide) (V_iload_n dX11_layRules_76 rfl rfl (V_ishl dX11_layRules_77 (V_goto (tgt := 82) dX11_layRules_78 (by decide) (V_ior dX11_layRules_82 ?_))))
                  refine V_ias dX11_layRules_83 (by first | assumption | exact ⟨by decide, rfl⟩) (show ix _ k 8 from ⟨rfl, by omega⟩) ?_
                  refine V_iinc_2 (w := 1) dX11_layRules_84 (by decide) (by decide) rfl (V_goto (tgt := 44) dX11_layRules_87 (by decide) ?_)
                  rw [up2_up2, nI_1, mk_t (f := fun j => decide (k ≠ j) && !cls K k j) (by omega) (by simp [hkj, hcl])]
                  exact ih3
                · refine V_if_eq_t (tgt := 81) dX11_layRules_72 (by decide) (rfl) ?_
                  refine V_iconst (v := 0) dX11_layRules_81 (by decide) (V_ior dX11_layRules_82 ?_)
                  refine V_ias dX11_layRules_83 (by first | assumption | exact ⟨by decide, rfl⟩) (show ix _ k 8 from ⟨rfl, by omega⟩) ?_
                  refine V_iinc_2 (w := 1) dX11_layRules_84 (by decide) (by decide) rfl (V_goto (tgt := 44) dX11_layRules_87 (by decide) ?_)
                  rw [or0, up2_up2, nI_1, mk_f (f := fun j => decide (k ≠ j) && !cls K k j) (by omega) (by simp [hcl])]
                  exact ih3
          exact key3 0 (Nat.zero_le _)
      exact V_forget (key2 0 (Nat.zero_le _) I1 (fun _ _ _ => rfl) (fun i hi => absurd hi (by omega))) (by simp [lessb, nI_0])
    · intro k hk ih I1 h1 h2
      have hM1 : MB I1 K := hM.all hB (fun x y a b => h1 x y (by omega))
      refine V_iload_n dX11_layRules_2 rfl rfl (V_aload_n dX11_layRules_3 rfl rfl ?_)
      refine V_getR dX11_layRules_4 fl_X11_13 (by first | assumption | exact ⟨by decide, rfl⟩) (by first | assumption | rfl) ?_
      refine V_iconst (v := 0) dX11_layRules_7 (by decide) ?_
      refine V_ial dX11_layRules_8 (by first | assumption | exact ⟨by decide, rfl⟩) (show ix _ 0 _ from ⟨rfl, by decide⟩) ?_
      refine V_icmp_ge_f (tgt := 23) dX11_layRules_9 (by decide) (by rw [h1 _ _ (by omega), hM.n0]; exact nI_ge hk (by omega)) ?_
      refine V_aload_n dX11_layRules_12 rfl rfl (V_iload_n dX11_layRules_13 rfl rfl ?_)
      refine V_cV1v (M' := M_X11_layMays) (d' := 3) dX11_layRules_14 (Or.inl ml_X11_186) kb_X11_layMays (by first | assumption | exact ⟨by decide, rfl⟩) (by first | decide | omega) (by simp [Value.category]) ⟨by decide, by decide⟩ ?_
      refine mr_layMays hB hM1 hk ⟨rfl, ?_⟩
      refine V_iinc_1 (w := 1) dX11_layRules_17 (by decide) (by decide) rfl (V_goto (tgt := 2) dX11_layRules_20 (by decide) ?_)
      rw [nI_1]
      refine ih _ (fun x y z => by rw [u2n (by omega)]; exact h1 x y z) (fun p hp => ?_)
      by_cases hpk : p = k
      · subst hpk; rw [u2e]
      · rw [u2n (by omega)]; exact h2 p (by omega)
  exact key 0 (Nat.zero_le _) I (fun _ _ _ => rfl) (fun p hp => absurd hp (by omega))
end
section
variable {E : En} {I : TI} {J : TJ} {co dr : Nat} {cc a1 a2 : Option Nat} {Post : PT} {t : Nat → Nat} {len : Nat} {K : KT} {D D1 D2 : Di} {kp : Nat} {tl : Nat → Int32} {d : Nat}
theorem rop_both (hd : 3 ≤ d) (h : MS t len K D D1 D2 kp tl I) {i j : Int32} : Cal E d M_X11_both [.ref 70, .int i, .int j] NC I J (RR co dr cc a1 a2) (MK t len K D D1 D2 kp tl (some (.int (a_both K i j))) I J (RR co dr cc a1 a2)) := by
  have h' := h
  obtain ⟨hB, hM, hR, hT, hD⟩ := h
  have hQ := hB.1.2.1
  refine Cal_of kn_X11_both rfl (Nat.le_of_ble_eq_true rfl) ?_
  refine V_aload_n dX11_both_0 rfl rfl (V_iload_n dX11_both_1 rfl rfl ?_)
  refine V_cV1i (M' := M_X11_isPart) (d' := 2) dX11_both_2 (Or.inl ml_X11_200) kb_X11_isPart (by first | assumption | exact ⟨by decide, rfl⟩) (by first | decide | omega) (by simp [Value.category]) ⟨by decide, by decide⟩ ?_
  refine mr_isPart hM.n1 hQ ⟨_, rfl, ?_⟩
  cases hv : inR i (K 0 1)
  · refine V_if_eq_t (tgt := 21) dX11_both_5 (by decide) (rfl) ?_
    refine V_iconst (v := (-1)) dX11_both_21 (by decide) ?_
    refine V_ireturn dX11_both_22 rfl rfl rfl (by decide) (by decide) ?_
    rw [a_both, hv]; exact MK.same h'
  · obtain ⟨q1, q2⟩ := inR_cl hv (by omega)
    refine V_if_eq_f (tgt := 21) dX11_both_5 (by decide) (by decide) ?_
    refine V_aload_n dX11_both_8 rfl rfl (V_iload_n dX11_both_9 rfl rfl ?_)
    refine V_cV1i (M' := M_X11_isPart) (d' := 2) dX11_both_10 (Or.inl ml_X11_200) kb_X11_isPart (by first | assumption | exact ⟨by decide, rfl⟩) (by first | decide | omega) (by simp [Value.category]) ⟨by decide, by decide⟩ ?_
    refine mr_isPart hM.n1 hQ ⟨_, rfl, ?_⟩
    cases hv2 : inR j (K 0 1)
    · refine V_if_eq_t (tgt := 21) dX11_both_13 (by decide) (rfl) ?_
      refine V_iconst (v := (-1)) dX11_both_21 (by decide) ?_
      refine V_ireturn dX11_both_22 rfl rfl rfl (by decide) (by decide) ?_
      rw [a_both, hv, hv2]; exact MK.same h'
    · obtain ⟨q3, q4⟩ := inR_cl hv2 (by omega)
      by_cases hij : cl i = cl j
      · refine V_if_eq_f (tgt := 21) dX11_both_13 (by decide) (by decide) ?_
        refine V_iload_n dX11_both_16 rfl rfl (V_iload_n dX11_both_17 rfl rfl ?_)
        refine V_icmp_ne_f (tgt := 23) dX11_both_18 (by decide) (by rw [q2, q4, hij]) ?_
        refine V_iconst (v := (-1)) dX11_both_21 (by decide) ?_
        refine V_ireturn dX11_both_22 rfl rfl rfl (by decide) (by decide) ?_
        rw [a_both, hv, hv2, show decide (cl i ≠ cl j) = false by simp [hij]]; exact MK.same h'
      · have hij2 : ¬ i = j := fun z => hij (by rw [z])
        refine V_if_eq_f (tgt := 21) dX11_both_13 (by decide) (by decide) ?_
        refine V_iload_n dX11_both_16 rfl rfl (V_iload_n dX11_both_17 rfl rfl ?_)
        refine V_icmp_ne_t (tgt := 23) dX11_both_18 (by decide) (hij2) ?_
        refine V_aload_n dX11_both_23 rfl rfl ?_
        refine V_getR dX11_both_24 fl_X11_79 (by first | assumption | exact ⟨by decide, rfl⟩) (by first | assumption | rfl) ?_
        refine V_iload_n dX11_both_27 rfl rfl ?_
        refine V_ial dX11_both_28 (by first | assumption | exact ⟨by decide, rfl⟩) (show ix _ (cl i) 8 from ⟨q2, by omega⟩) ?_
        refine V_iload_n dX11_both_29 rfl rfl ?_
        refine V_cS2i (M' := M_X11_has) (d' := 1) dX11_both_30 (Or.inl ml_X11_183) kb_X11_has (by first | decide | omega) (by simp [Value.category]) ⟨by decide, by decide⟩ ?_
        rw [hR.2 _ q1, show [Value.int (nI (withM K (cl i))), Value.int j] = [Value.int (nI (withM K (cl i))), Value.int (nI (cl j))] by rw [← q4]]
        refine sp_mhas (lt31 (withM_lt hB _) (by decide)) (by omega) ⟨_, rfl, ?_⟩
        have e : (withM K (cl i)).testBit (cl j) = !clf K (cl i) (cl j) := by
          unfold withM clf
          rw [mk_tb]
          simp [q1, q3, hij, Ne.symm hij]
        rw [e, a_both, hv, hv2, show decide (cl i ≠ cl j) = true by simp [hij]]
        cases hc : clf K (cl i) (cl j)
        · refine V_if_eq_f (tgt := 40) dX11_both_33 (by decide) (by decide) ?_
          refine V_iconst (v := 1) dX11_both_36 (by decide) (V_goto (tgt := 41) dX11_both_37 (by decide) ?_)
          refine V_ireturn dX11_both_41 rfl rfl rfl (by decide) (by decide) ?_
          exact MK.same h'
        · refine V_if_eq_t (tgt := 40) dX11_both_33 (by decide) (rfl) ?_
          refine V_iconst (v := 0) dX11_both_40 (by decide) ?_
          refine V_ireturn dX11_both_41 rfl rfl rfl (by decide) (by decide) ?_
          exact MK.same h'
theorem rop_player (hd : 3 ≤ d) (h : MS t len K D D1 D2 kp tl I) {p x : Int32} : Cal E d M_X11_player [.ref 70, .int p, .int x] NC I J (RR co dr cc a1 a2) (MK t len K D D1 D2 kp tl (some (.int (a_player K p x))) I J (RR co dr cc a1 a2)) := by
  have h' := h
  obtain ⟨hB, hM, hR, hT, hD⟩ := h
  have hP := hB.1.1
  have hQ := hB.1.2.1
  refine Cal_of kn_X11_player rfl (Nat.le_of_ble_eq_true rfl) ?_
  refine V_aload_n dX11_player_0 rfl rfl (V_iload_n dX11_player_1 rfl rfl ?_)
  refine V_cV1i (M' := M_X11_isPlayer) (d' := 2) dX11_player_2 (Or.inl ml_X11_195) kb_X11_isPlayer (by first | assumption | exact ⟨by decide, rfl⟩) (by first | decide | omega) (by simp [Value.category]) ⟨by decide, by decide⟩ ?_
  refine mr_isPlayer hM.n0 hP ⟨_, rfl, ?_⟩
  cases hv : inR p (K 0 0)
  · refine V_if_eq_t (tgt := 20) dX11_player_5 (by decide) (rfl) ?_
    refine V_iconst (v := (-1)) dX11_player_20 (by decide) ?_
    refine V_ireturn dX11_player_21 rfl rfl rfl (by decide) (by decide) ?_
    rw [a_player, hv]; exact MK.same h'
  · obtain ⟨q1, q2⟩ := inR_cl hv (by omega)
    generalize hkk : cl p = kk at *
    subst q2
    refine V_if_eq_f (tgt := 20) dX11_player_5 (by decide) (by decide) ?_
    refine V_iload_n dX11_player_8 rfl rfl (V_i2l dX11_player_9 (V_lconst (v := 0) dX11_player_10 rfl (V_ldc2_w dX11_player_11 ct_X11_198 ?_)))
    refine V_cS3i (M' := M_X11_in) (d' := 1) dX11_player_14 (Or.inl ml_X11_124) kb_X11_in (by first | decide | omega) (by simp [Value.category]) ⟨by decide, by decide⟩ ?_
    refine mr_in ⟨_, rfl, ?_⟩
    rw [in_C (u := 0) (v := 4) (by decide) (by decide)]
    by_cases hin : 0 ≤ x.toInt ∧ x.toInt ≤ 4
    · rw [decide_eq_true hin]
      refine V_if_ne_t (tgt := 22) dX11_player_17 (by decide) (by decide) ?_
      refine V_iconst (v := 0) dX11_player_22 (by decide) (V_istore_3 dX11_player_23 (by decide) rfl (V_iconst (v := 0) dX11_player_24 (by decide) (V_istore_4 dX11_player_25 (by decide) rfl ?_)))
      have key : ∀ k, k ≤ K 0 1 → V E d M_X11_player (MK t len K D D1 D2 kp tl (some (.int (a_player K (nI kk) x))) I J (RR co dr cc a1 a2)) 27 [some (.ref 70), some (.int (nI kk)), some (.int x), some (.int (nI (mk (fun i => decide (K 7 i = kk + 1)) k))), some (.int (nI k))] [] NC 0 0 I J (RR co dr cc a1 a2) := by
        refine loop_up (K 0 1) ?_ ?_
        · refine V_iload dX11_player_27 rfl (V_aload_n dX11_player_29 rfl rfl ?_)
          refine V_getR dX11_player_30 fl_X11_22 (by first | assumption | exact ⟨by decide, rfl⟩) (by first | assumption | rfl) ?_
          refine V_iconst (v := 0) dX11_player_33 (by decide) ?_
          refine V_ial dX11_player_34 (by first | assumption | exact ⟨by decide, rfl⟩) (show ix _ 0 _ from ⟨rfl, by decide⟩) ?_
          refine V_icmp_ge_t (tgt := 66) dX11_player_35 (by decide) (by rw [hM.n1]; exact nI_le (by omega) (by omega)) ?_
          refine V_iload_n dX11_player_66 rfl rfl ?_
          rw [a_player, hv, if_pos rfl, hkk]
          rcases (show x.toInt = 0 ∨ x.toInt = 1 ∨ x.toInt = 2 ∨ x.toInt = 3 ∨ x.toInt = 4 by omega) with z | z | z | z | z
          · obtain rfl := to_lit 0 z (by decide)
            refine V_tableIn (off := 29) (tgt := 96) dX11_player_67 (by decide) (by decide) (by decide) (by decide) ?_
            refine V_aload_n dX11_player_96 rfl rfl ?_
            refine V_getR dX11_player_97 fl_X11_16 (by first | assumption | exact ⟨by decide, rfl⟩) (by first | assumption | rfl) ?_
            refine V_iload_n dX11_player_100 rfl rfl ?_
            refine V_ial dX11_player_101 (by first | assumption | exact ⟨by decide, rfl⟩) (show ix _ kk 20 from ⟨rfl, by omega⟩) ?_
            refine V_ireturn dX11_player_102 rfl rfl rfl (by decide) (by decide) ?_
            rw [hM.hgt q1]; exact MK.same h'
          · obtain rfl := to_lit 1 z (by decide)
            refine V_tableIn (off := 36) (tgt := 103) dX11_player_67 (by decide) (by decide) (by decide) (by decide) ?_
            refine V_aload_n dX11_player_103 rfl rfl ?_
            refine V_getR dX11_player_104 fl_X11_19 (by first | assumption | exact ⟨by decide, rfl⟩) (by first | assumption | rfl) ?_
            refine V_iload_n dX11_player_107 rfl rfl ?_
            refine V_ial dX11_player_108 (by first | assumption | exact ⟨by decide, rfl⟩) (show ix _ kk 20 from ⟨rfl, by omega⟩) ?_
            refine V_ireturn dX11_player_109 rfl rfl rfl (by decide) (by decide) ?_
            rw [hM.skl q1]; exact MK.same h'
          · obtain rfl := to_lit 2 z (by decide)
            refine V_tableIn (off := 43) (tgt := 110) dX11_player_67 (by decide) (by decide) (by decide) (by decide) ?_
            refine V_iload_n dX11_player_110 rfl rfl ?_
            refine V_ireturn dX11_player_111 rfl rfl rfl (by decide) (by decide) ?_
            exact MK.same h'
          · obtain rfl := to_lit 3 z (by decide)
            refine V_tableIn (off := 45) (tgt := 112) dX11_player_67 (by decide) (by decide) (by decide) (by decide) ?_
            refine V_aload_n dX11_player_112 rfl rfl ?_
            refine V_getR dX11_player_113 fl_X11_52 (by first | assumption | exact ⟨by decide, rfl⟩) (by first | assumption | rfl) ?_
            refine V_iload_n dX11_player_116 rfl rfl ?_
            refine V_ial dX11_player_117 (by first | assumption | exact ⟨by decide, rfl⟩) (show ix _ kk 20 from ⟨rfl, by omega⟩) ?_
            refine V_ireturn dX11_player_118 rfl rfl rfl (by decide) (by decide) ?_
            rw [hM.knw (by omega)]; exact MK.same h'
          · obtain rfl := to_lit 4 z (by decide)
            refine V_tableOut (tgt := 119) dX11_player_67 (by decide) (by decide) ?_
            refine V_aload_n dX11_player_119 rfl rfl ?_
            refine V_getR dX11_player_120 fl_X11_76 (by first | assumption | exact ⟨by decide, rfl⟩) (by first | assumption | rfl) ?_
            refine V_iload_n dX11_player_123 rfl rfl ?_
            refine V_ial dX11_player_124 (by first | assumption | exact ⟨by decide, rfl⟩) (show ix _ kk 10 from ⟨rfl, by omega⟩) ?_
            refine V_ireturn dX11_player_125 rfl rfl rfl (by decide) (by decide) ?_
            rw [hR.1 _ q1]; exact MK.same h'
        · intro k hk ih
          have ho := hB.2.2.2.2.1 k
          by_cases hz : K 7 k = kk + 1
          · refine V_iload dX11_player_27 rfl (V_aload_n dX11_player_29 rfl rfl ?_)
            refine V_getR dX11_player_30 fl_X11_22 (by first | assumption | exact ⟨by decide, rfl⟩) (by first | assumption | rfl) ?_
            refine V_iconst (v := 0) dX11_player_33 (by decide) ?_
            refine V_ial dX11_player_34 (by first | assumption | exact ⟨by decide, rfl⟩) (show ix _ 0 _ from ⟨rfl, by decide⟩) ?_
            refine V_icmp_ge_f (tgt := 66) dX11_player_35 (by decide) (by rw [hM.n1]; exact nI_ge hk (by omega)) ?_
            refine V_iload_n dX11_player_38 rfl rfl (V_aload_n dX11_player_39 rfl rfl ?_)
            refine V_getR dX11_player_40 fl_X11_37 (by first | assumption | exact ⟨by decide, rfl⟩) (by first | assumption | rfl) ?_
            refine V_iload dX11_player_43 rfl ?_
            refine V_ial dX11_player_45 (by first | assumption | exact ⟨by decide, rfl⟩) (show ix _ k 16 from ⟨rfl, by omega⟩) ?_
            refine V_iload_n dX11_player_46 rfl rfl ?_
            refine V_icmp_ne_f (tgt := 57) dX11_player_47 (by decide) (by rw [hM.own (by omega)]; exact (owv_eq (by omega) (by omega)).mpr hz) ?_
            refine V_iconst (v := 1) dX11_player_50 (by decide) (V_iload dX11_player_51 rfl (V_ishl dX11_player_53 (V_goto (tgt := 58) dX11_player_54 (by decide) (V_ior dX11_player_58 (V_istore_3 dX11_player_59 (by decide) rfl ?_)))))
            refine V_iinc_4 (w := 1) dX11_player_60 (by decide) (by decide) rfl (V_goto (tgt := 27) dX11_player_63 (by decide) ?_)
            rw [nI_1, mk_t (f := fun i => decide (K 7 i = kk + 1)) (by omega) (by simp [hz])]
            exact ih
          · refine V_iload dX11_player_27 rfl (V_aload_n dX11_player_29 rfl rfl ?_)
            refine V_getR dX11_player_30 fl_X11_22 (by first | assumption | exact ⟨by decide, rfl⟩) (by first | assumption | rfl) ?_
            refine V_iconst (v := 0) dX11_player_33 (by decide) ?_
            refine V_ial dX11_player_34 (by first | assumption | exact ⟨by decide, rfl⟩) (show ix _ 0 _ from ⟨rfl, by decide⟩) ?_
            refine V_icmp_ge_f (tgt := 66) dX11_player_35 (by decide) (by rw [hM.n1]; exact nI_ge hk (by omega)) ?_
            refine V_iload_n dX11_player_38 rfl rfl (V_aload_n dX11_player_39 rfl rfl ?_)
            refine V_getR dX11_player_40 fl_X11_37 (by first | assumption | exact ⟨by decide, rfl⟩) (by first | assumption | rfl) ?_
            refine V_iload dX11_player_43 rfl ?_
            refine V_ial dX11_player_45 (by first | assumption | exact ⟨by decide, rfl⟩) (show ix _ k 16 from ⟨rfl, by omega⟩) ?_
            refine V_iload_n dX11_player_46 rfl rfl ?_
            refine V_icmp_ne_t (tgt := 57) dX11_player_47 (by decide) (by rw [hM.own (by omega)]; exact fun z => hz ((owv_eq (by omega) (by omega)).mp z)) ?_
            refine V_iconst (v := 0) dX11_player_57 (by decide) (V_ior dX11_player_58 (V_istore_3 dX11_player_59 (by decide) rfl (V_iinc_4 (w := 1) dX11_player_60 (by decide) (by decide) rfl (V_goto (tgt := 27) dX11_player_63 (by decide) ?_))))
            rw [or0, nI_1, mk_f (f := fun i => decide (K 7 i = kk + 1)) (by omega) (by simp [hz])]
            exact ih
      exact key 0 (Nat.zero_le _)
    · rw [decide_eq_false hin]
      have ne : ∀ w : Int32, 0 ≤ w.toInt → w.toInt ≤ 4 → ¬ x = w := fun w a b z => hin (by rw [z]; exact ⟨a, b⟩)
      refine V_if_ne_f (tgt := 22) dX11_player_17 (by decide) (rfl) ?_
      refine V_iconst (v := (-1)) dX11_player_20 (by decide) ?_
      refine V_ireturn dX11_player_21 rfl rfl rfl (by decide) (by decide) ?_
      rw [a_player, hv, if_pos rfl, if_neg (ne _ (by decide) (by decide)), if_neg (ne _ (by decide) (by decide)), if_neg (ne _ (by decide) (by decide)), if_neg (ne _ (by decide) (by decide)), if_neg (ne _ (by decide) (by decide))]
      exact MK.same h'
theorem rop_part (hd : 3 ≤ d) (h : MS t len K D D1 D2 kp tl I) {i x : Int32} : Cal E d M_X11_part [.ref 70, .int i, .int x] NC I J (RR co dr cc a1 a2) (MK t len K D D1 D2 kp tl (some (.int (a_part K i x))) I J (RR co dr cc a1 a2)) := by
  have h' := h
  obtain ⟨hB, hM, hR, hT, hD⟩ := h
  have hQ := hB.1.2.1
  have hS := hB.1.2.2.1
  refine Cal_of kn_X11_part rfl (Nat.le_of_ble_eq_true rfl) ?_
  refine V_aload_n dX11_part_0 rfl rfl (V_iload_n dX11_part_1 rfl rfl ?_)
  refine V_cV1i (M' := M_X11_isPart) (d' := 2) dX11_part_2 (Or.inl ml_X11_200) kb_X11_isPart (by first | assumption | exact ⟨by decide, rfl⟩) (by first | decide | omega) (by simp [Value.category]) ⟨by decide, by decide⟩ ?_
  refine mr_isPart hM.n1 hQ ⟨_, rfl, ?_⟩
  cases hv : inR i (K 0 1)
  · refine V_if_eq_t (tgt := 20) dX11_part_5 (by decide) (rfl) ?_
    refine V_iconst (v := (-1)) dX11_part_20 (by decide) ?_
    refine V_ireturn dX11_part_21 rfl rfl rfl (by decide) (by decide) ?_
    rw [a_part, hv]; exact MK.same h'
  · obtain ⟨q1, q2⟩ := inR_cl hv (by omega)
    generalize hkk : cl i = kk at *
    subst q2
    refine V_if_eq_f (tgt := 20) dX11_part_5 (by decide) (by decide) ?_
    refine V_iload_n dX11_part_8 rfl rfl (V_i2l dX11_part_9 (V_lconst (v := 0) dX11_part_10 rfl (V_ldc2_w dX11_part_11 ct_X11_203 ?_)))
    refine V_cS3i (M' := M_X11_in) (d' := 1) dX11_part_14 (Or.inl ml_X11_124) kb_X11_in (by first | decide | omega) (by simp [Value.category]) ⟨by decide, by decide⟩ ?_
    refine mr_in ⟨_, rfl, ?_⟩
    rw [in_C (u := 0) (v := 5) (by decide) (by decide)]
    by_cases hin : 0 ≤ x.toInt ∧ x.toInt ≤ 5
    · rw [decide_eq_true hin]
      refine V_if_ne_t (tgt := 22) dX11_part_17 (by decide) (by decide) ?_
      refine V_iconst (v := 0) dX11_part_22 (by decide) (V_istore_3 dX11_part_23 (by decide) rfl (V_iconst (v := 0) dX11_part_24 (by decide) (V_istore_4 dX11_part_25 (by decide) rfl ?_)))
      have key : ∀ k, k ≤ K 0 2 → V E d M_X11_part (MK t len K D D1 D2 kp tl (some (.int (a_part K (nI kk) x))) I J (RR co dr cc a1 a2)) 27 [some (.ref 70), some (.int (nI kk)), some (.int x), some (.int (nI (mk (fun s => (K 9 s).testBit kk) k))), some (.int (nI k))] [] NC 0 0 I J (RR co dr cc a1 a2) := by
        refine loop_up (K 0 2) ?_ ?_
        · refine V_iload dX11_part_27 rfl (V_aload_n dX11_part_29 rfl rfl ?_)
          refine V_getR dX11_part_30 fl_X11_40 (by first | assumption | exact ⟨by decide, rfl⟩) (by first | assumption | rfl) ?_
          refine V_iconst (v := 0) dX11_part_33 (by decide) ?_
          refine V_ial dX11_part_34 (by first | assumption | exact ⟨by decide, rfl⟩) (show ix _ 0 _ from ⟨rfl, by decide⟩) ?_
          refine V_icmp_ge_t (tgt := 69) dX11_part_35 (by decide) (by rw [hM.n2]; exact nI_le (by omega) (by omega)) ?_
          refine V_iload_n dX11_part_69 rfl rfl ?_
          rw [a_part, hv, if_pos rfl, hkk]
          rcases (show x.toInt = 0 ∨ x.toInt = 1 ∨ x.toInt = 2 ∨ x.toInt = 3 ∨ x.toInt = 4 ∨ x.toInt = 5 by omega) with z | z | z | z | z | z
          · obtain rfl := to_lit 0 z (by decide)
            refine V_tableIn (off := 34) (tgt := 104) dX11_part_70 (by decide) (by decide) (by decide) (by decide) ?_
            refine V_aload_n dX11_part_104 rfl rfl ?_
            refine V_getR dX11_part_105 fl_X11_25 (by first | assumption | exact ⟨by decide, rfl⟩) (by first | assumption | rfl) ?_
            refine V_iload_n dX11_part_108 rfl rfl ?_
            refine V_ial dX11_part_109 (by first | assumption | exact ⟨by decide, rfl⟩) (show ix _ kk 16 from ⟨rfl, by omega⟩) ?_
            refine V_ireturn dX11_part_110 rfl rfl rfl (by decide) (by decide) ?_
            rw [hM.siz q1]; exact MK.same h'
          · obtain rfl := to_lit 1 z (by decide)
            refine V_tableIn (off := 41) (tgt := 111) dX11_part_70 (by decide) (by decide) (by decide) (by decide) ?_
            refine V_aload_n dX11_part_111 rfl rfl ?_
            refine V_getR dX11_part_112 fl_X11_28 (by first | assumption | exact ⟨by decide, rfl⟩) (by first | assumption | rfl) ?_
            refine V_iload_n dX11_part_115 rfl rfl ?_
            refine V_ial dX11_part_116 (by first | assumption | exact ⟨by decide, rfl⟩) (show ix _ kk 16 from ⟨rfl, by omega⟩) ?_
            refine V_ireturn dX11_part_117 rfl rfl rfl (by decide) (by decide) ?_
            rw [hM.wnt q1]; exact MK.same h'
          · obtain rfl := to_lit 2 z (by decide)
            refine V_tableIn (off := 48) (tgt := 118) dX11_part_70 (by decide) (by decide) (by decide) (by decide) ?_
            refine V_aload_n dX11_part_118 rfl rfl ?_
            refine V_getR dX11_part_119 fl_X11_31 (by first | assumption | exact ⟨by decide, rfl⟩) (by first | assumption | rfl) ?_
            refine V_iload_n dX11_part_122 rfl rfl ?_
            refine V_ial dX11_part_123 (by first | assumption | exact ⟨by decide, rfl⟩) (show ix _ kk 16 from ⟨rfl, by omega⟩) ?_
            refine V_ireturn dX11_part_124 rfl rfl rfl (by decide) (by decide) ?_
            rw [hM.lin q1]; exact MK.same h'
          · obtain rfl := to_lit 3 z (by decide)
            refine V_tableIn (off := 55) (tgt := 125) dX11_part_70 (by decide) (by decide) (by decide) (by decide) ?_
            refine V_aload_n dX11_part_125 rfl rfl ?_
            refine V_getR dX11_part_126 fl_X11_34 (by first | assumption | exact ⟨by decide, rfl⟩) (by first | assumption | rfl) ?_
            refine V_iload_n dX11_part_129 rfl rfl ?_
            refine V_ial dX11_part_130 (by first | assumption | exact ⟨by decide, rfl⟩) (show ix _ kk 16 from ⟨rfl, by omega⟩) ?_
            refine V_ireturn dX11_part_131 rfl rfl rfl (by decide) (by decide) ?_
            rw [hM.cut q1]; exact MK.same h'
          · obtain rfl := to_lit 4 z (by decide)
            refine V_tableIn (off := 62) (tgt := 132) dX11_part_70 (by decide) (by decide) (by decide) (by decide) ?_
            refine V_iload_n dX11_part_132 rfl rfl ?_
            refine V_ireturn dX11_part_133 rfl rfl rfl (by decide) (by decide) ?_
            exact MK.same h'
          · obtain rfl := to_lit 5 z (by decide)
            refine V_tableOut (tgt := 134) dX11_part_70 (by decide) (by decide) ?_
            refine V_aload_n dX11_part_134 rfl rfl ?_
            refine V_getR dX11_part_135 fl_X11_37 (by first | assumption | exact ⟨by decide, rfl⟩) (by first | assumption | rfl) ?_
            refine V_iload_n dX11_part_138 rfl rfl ?_
            refine V_ial dX11_part_139 (by first | assumption | exact ⟨by decide, rfl⟩) (show ix _ kk 16 from ⟨rfl, by omega⟩) ?_
            refine V_ireturn dX11_part_140 rfl rfl rfl (by decide) (by decide) ?_
            rw [hM.own (by omega)]; exact MK.same h'
        · intro k hk ih
          refine V_iload dX11_part_27 rfl (V_aload_n dX11_part_29 rfl rfl ?_)
          refine V_getR dX11_part_30 fl_X11_40 (by first | assumption | exact ⟨by decide, rfl⟩) (by first | assumption | rfl) ?_
          refine V_iconst (v := 0) dX11_part_33 (by decide) ?_
          refine V_ial dX11_part_34 (by first | assumption | exact ⟨by decide, rfl⟩) (show ix _ 0 _ from ⟨rfl, by decide⟩) ?_
          refine V_icmp_ge_f (tgt := 69) dX11_part_35 (by decide) (by rw [hM.n2]; exact nI_ge hk (by omega)) ?_
          refine V_iload_n dX11_part_38 rfl rfl (V_aload_n dX11_part_39 rfl rfl ?_)
          refine V_getR dX11_part_40 fl_X11_43 (by first | assumption | exact ⟨by decide, rfl⟩) (by first | assumption | rfl) ?_
          refine V_iload dX11_part_43 rfl ?_
          refine V_ial dX11_part_45 (by first | assumption | exact ⟨by decide, rfl⟩) (show ix _ k 20 from ⟨rfl, by omega⟩) ?_
          refine V_iload_n dX11_part_46 rfl rfl ?_
          refine V_cS2i (M' := M_X11_has) (d' := 1) dX11_part_47 (Or.inl ml_X11_183) kb_X11_has (by first | decide | omega) (by simp [Value.category]) ⟨by decide, by decide⟩ ?_
          rw [hM.scn hk]
          refine sp_mhas (lt31 (hB.2.2.2.2.2.1 k hk).1 (by omega)) (by omega) ⟨_, rfl, ?_⟩
          cases hz : (K 9 k).testBit kk
          · refine V_if_eq_t (tgt := 60) dX11_part_50 (by decide) (rfl) ?_
            refine V_iconst (v := 0) dX11_part_60 (by decide) (V_ior dX11_part_61 (V_istore_3 dX11_part_62 (by decide) rfl (V_iinc_4 (w := 1) dX11_part_63 (by decide) (by decide) rfl (V_goto (tgt := 27) dX11_part_66 (by decide) ?_))))
            rw [or0, nI_1, mk_f (f := fun s => (K 9 s).testBit kk) (by omega) hz]
            exact ih
          · refine V_if_eq_f (tgt := 60) dX11_part_50 (by decide) (by decide) ?_
            refine V_iconst (v := 1) dX11_part_53 (by decide) (V_iload dX11_part_54 rfl (V_ishl dX11_part_56 (V_goto (tgt := 61) dX11_part_57 (by decide) (V_ior dX11_part_61 (V_istore_3 dX11_part_62 (by decide) rfl ?_)))))
            refine V_iinc_4 (w := 1) dX11_part_63 (by decide) (by decide) rfl (V_goto (tgt := 27) dX11_part_66 (by decide) ?_)
            rw [nI_1, mk_t (f := fun s => (K 9 s).testBit kk) (by omega) hz]
            exact ih
      exact key 0 (Nat.zero_le _)
    · rw [decide_eq_false hin]
      have ne : ∀ w : Int32, 0 ≤ w.toInt → w.toInt ≤ 5 → ¬ x = w := fun w a b z => hin (by rw [z]; exact ⟨a, b⟩)
      refine V_if_ne_f (tgt := 22) dX11_part_17 (by decide) (rfl) ?_
      refine V_iconst (v := (-1)) dX11_part_20 (by decide) ?_
      refine V_ireturn dX11_part_21 rfl rfl rfl (by decide) (by decide) ?_
      rw [a_part, hv, if_pos rfl, if_neg (ne _ (by decide) (by decide)), if_neg (ne _ (by decide) (by decide)), if_neg (ne _ (by decide) (by decide)), if_neg (ne _ (by decide) (by decide)), if_neg (ne _ (by decide) (by decide)), if_neg (ne _ (by decide) (by decide))]
      exact MK.same h'
end
