/-! The reference goes through the castings: the loop -/
theorem FrC.MB {I0 I : TI} {K : KT} (h : FrC I0 I) (hB : KB K) (hM : MB I0 K) : MB I K := hM.all hB (fun x y a b => h x y (by omega) (by omega) (by omega) (by omega))
theorem FrC.MR {I0 I : TI} {K : KT} (h : FrC I0 I) (hM : MR I0 K) : MR I K := hM.of (fun y => h _ _ (by omega) (by omega) (by omega) (by omega)) (fun y => h _ _ (by omega) (by omega) (by omega) (by omega))
theorem FrC.MDX {I0 I : TI} {D : Di} {b : Nat} (h : FrC I0 I) (hM : MDX I0 b D) : MDX I b D := hM.of (fun x y a b => h _ _ (by omega) (by omega) (by omega) (by omega))
theorem CL_zero {P : Nat} {ok : Nat → Nat → Bool} {ct : Nat → Bool} {cm : Nat → Nat} (hP : P = 0) : ∀ (r i : Nat) (tk : Nat → Nat), (CL P ok ct cm r i tk).length ≤ 1
  | 0, i, tk => by simp [CL]
  | r + 1, i, tk => by
    cases hc : ct i
    · rw [CL_all hc, CLp_end (by omega)]; simp
    · rw [CL_cut hc, List.length_map]; exact CL_zero hP r (i + 1) tk
section
variable {E : En} {I0 : TI} {J0 : TJ} {co dr : Nat} {cc a1 a2 : Option Nat} {Post : PT} {K : KT} {D : Di} {off cut : Nat} {all : Bool}
abbrev LsC (off cut : Nat) (all : Bool) (v : Int32) (o5 o6 : Option Value) : List (Option Value) := [some (.ref 70), some (.int (nI off)), some (.int (nI cut)), some (.int (b2i all)), some (.int v), o5, o6]
theorem cast_core (hB : KB K) (hM : MB I0 K) (hR : MR I0 K) (hD : MDX I0 0 D) (hDB : DB D.1 D.2.1) (hoff : off < 2 ^ 31) (hcut : cut < 2 ^ 31) : ∀ (r i : Nat) (pre : List Nat) (tk : Nat → Nat) (c : Nat) (a : Nat × List Nat) (I : TI), i + r = K 0 1 → pre.length = i → (∀ p, tk p < 2 ^ i) → (∀ j, j < i → (pre.getD j 0 = 0 ↔ cut.testBit j = true)) → (∀ j, pre.getD j 0 ≤ K 0 0) → TS (trb K D.1 D.2.1) 0 pre ≤ i * 1990 → FrC I0 I → PIL I i pre → HAV I tk → ACC I (K 0 1) a →
    (all = false → CL (K 0 0) (okf K off) (ctf cut) (clashM K) r i tk ≠ [] → ∀ I' J', FrC I0 I' → (∀ x y, (x ≠ 70 ∨ y ≠ 30) → J' x y = J0 x y) → Post (some (.int 1)) NC I' J' (RR co dr cc a1 a2)) →
    (all = true ∨ CL (K 0 0) (okf K off) (ctf cut) (clashM K) r i tk = [] → ∀ I', FrC I0 I' → PIL I' i pre → HAV I' tk → ACC I' (K 0 1) (bst (trb K D.1 D.2.1) i (TS (trb K D.1 D.2.1) 0 pre) pre (CL (K 0 0) (okf K off) (ctf cut) (clashM K) r i tk) a) → V E 4 M_X11_cast Post 63 (LsC off cut all (sbk cut i) none none) [] NC 0 0 I' (up2 J0 70 30 (lN (c + (CL (K 0 0) (okf K off) (ctf cut) (clashM K) r i tk).length))) (RR co dr cc a1 a2)) →
    V E 4 M_X11_cast Post 63 (LsC off cut all (nI i) none none) [] NC 0 0 I (up2 J0 70 30 (lN c)) (RR co dr cc a1 a2) := by
  have hP := hB.1.1
  have hQ := hB.1.2.1
  intro r
  induction r with
  | zero =>
    intro i pre tk c a I hi hpl htk hz hle hts hF hPi hH hA hret hfin
    have hiQ : i = K 0 1 := by omega
    have hM' := hF.MB hB hM
    have hTS : TS (trb K D.1 D.2.1) 0 pre = fb_sm (fun j => if pre.getD j 0 = 0 then 0 else trb K D.1 D.2.1 (pre.getD j 0 - 1) j) (K 0 1) := by
      rw [TS_sm, hpl, hiQ]
      exact fb_sm_cong (fun k _ => by rw [Nat.zero_add])
    have eCL : CL (K 0 0) (okf K off) (ctf cut) (clashM K) 0 i tk = [[]] := rfl
    rw [eCL] at hret hfin
    cases hall : all
    · subst hall
      refine V_iload dX11_cast_63 rfl ?_
      refine V_if_lt_f (tgt := 306) dX11_cast_65 (by decide) (nI_nn (by omega)) ?_
      refine V_iload dX11_cast_68 rfl (V_aload_n dX11_cast_70 rfl rfl ?_)
      refine V_getR dX11_cast_71 fl_X11_22 (by first | assumption | exact ⟨by decide, rfl⟩) (by first | assumption | rfl) ?_
      refine V_iconst (v := 0) dX11_cast_74 (by decide) ?_
      refine V_ial dX11_cast_75 (by first | assumption | exact ⟨by decide, rfl⟩) (show ix _ 0 _ from ⟨rfl, by decide⟩) ?_
      refine V_icmp_ne_f (tgt := 171) dX11_cast_76 (by decide) (by rw [hM'.n1, hiQ]) ?_
      refine V_aload_n dX11_cast_79 rfl rfl (V_dup dX11_cast_80 rfl ?_)
      refine V_getJ dX11_cast_81 fl_X11_212 (by first | assumption | exact ⟨by decide, rfl⟩) ?_
      refine V_lconst (v := 1) dX11_cast_84 rfl (V_ladd dX11_cast_85 ?_)
      refine V_putJ dX11_cast_86 fl_X11_212 (by first | assumption | exact ⟨by decide, rfl⟩) ?_
      refine V_iload_n dX11_cast_89 rfl rfl ?_
      refine V_if_ne_f (tgt := 95) dX11_cast_90 (by decide) (rfl) ?_
      refine V_iconst (v := 1) dX11_cast_93 (by decide) ?_
      refine V_ireturn dX11_cast_94 rfl rfl rfl (by decide) (by decide) ?_
      exact hret rfl (by simp) I _ hF (fun x y h => by rw [u2n (by omega), u2n (by omega)])
    · subst hall
      have eb : bst (trb K D.1 D.2.1) i (TS (trb K D.1 D.2.1) 0 pre) pre [[]] a = if TS (trb K D.1 D.2.1) 0 pre < a.1 then (TS (trb K D.1 D.2.1) 0 pre, pre) else a := by
        show (if TS (trb K D.1 D.2.1) 0 pre + 0 < a.1 then (TS (trb K D.1 D.2.1) 0 pre + 0, pre ++ []) else a) = _
        rw [Nat.add_zero, List.append_nil]
      rw [eb] at hfin
      have hfin := hfin (Or.inl rfl)
      refine V_iload dX11_cast_63 rfl ?_
      refine V_if_lt_f (tgt := 306) dX11_cast_65 (by decide) (nI_nn (by omega)) ?_
      refine V_iload dX11_cast_68 rfl (V_aload_n dX11_cast_70 rfl rfl ?_)
      refine V_getR dX11_cast_71 fl_X11_22 (by first | assumption | exact ⟨by decide, rfl⟩) (by first | assumption | rfl) ?_
      refine V_iconst (v := 0) dX11_cast_74 (by decide) ?_
      refine V_ial dX11_cast_75 (by first | assumption | exact ⟨by decide, rfl⟩) (show ix _ 0 _ from ⟨rfl, by decide⟩) ?_
      refine V_icmp_ne_f (tgt := 171) dX11_cast_76 (by decide) (by rw [hM'.n1, hiQ]) ?_
      refine V_aload_n dX11_cast_79 rfl rfl (V_dup dX11_cast_80 rfl ?_)
      refine V_getJ dX11_cast_81 fl_X11_212 (by first | assumption | exact ⟨by decide, rfl⟩) ?_
      refine V_lconst (v := 1) dX11_cast_84 rfl (V_ladd dX11_cast_85 ?_)
      refine V_putJ dX11_cast_86 fl_X11_212 (by first | assumption | exact ⟨by decide, rfl⟩) ?_
      refine V_iload_n dX11_cast_89 rfl rfl ?_
      refine V_if_ne_t (tgt := 95) dX11_cast_90 (by decide) (by decide) ?_
      refine V_aload_n dX11_cast_95 rfl rfl (V_iload_n dX11_cast_96 rfl rfl ?_)
      refine V_cV1i (M' := M_X11_pileTrouble) (d' := 3) dX11_cast_97 (Or.inl ml_X11_219) kb_X11_pileTrouble (by first | assumption | exact ⟨by decide, rfl⟩) (by first | decide | omega) (by simp [Value.category]) ⟨by decide, by decide⟩ ?_
      rw [u2e, up2_up2, show lN c + 1 = lN (c + 1) from lN_add c 1]
      refine mr_pileTrouble hB hM' (hF.MDX hD) hDB hcut (fun j hj => hPi.1 j (by omega)) (fun j hj => hz j (by omega)) hle ⟨_, rfl, ?_⟩
      rw [← hTS]
      generalize hv : TS (trb K D.1 D.2.1) 0 pre = v at *
      -- back
      have t158 : ∀ I' o6, FrC I0 I' → PIL I' i pre → HAV I' tk → ACC I' (K 0 1) (if v < a.1 then (v, pre) else a) → V E 4 M_X11_cast Post 158 (LsC off cut true (nI i) (some (.int (nI v))) o6) [] NC 0 0 I' (up2 J0 70 30 (lN (c + 1))) (RR co dr cc a1 a2) := by
        intro I' o6 k1 k2 k3 k4
        refine V_iload dX11_cast_158 rfl (V_iconst (v := 1) dX11_cast_160 (by decide) (V_isub dX11_cast_161 (V_iload_n dX11_cast_162 rfl rfl ?_)))
        refine V_cS2i (M' := M_X11_stepBack) (d' := 2) dX11_cast_163 (Or.inl ml_X11_222) kb_X11_stepBack (by first | decide | omega) (by simp [Value.category]) ⟨by decide, by decide⟩ ?_
        refine mr_stepBack hcut (by omega) ⟨_, rfl, ?_⟩
        refine V_istore_4 dX11_cast_166 (by decide) rfl (V_goto (tgt := 63) dX11_cast_168 (by decide) ?_)
        exact V_forget (hfin I' k1 k2 k3 k4) (by simp [lessb, LsC])
      have t118 : v < a.1 → V E 4 M_X11_cast Post 118 (LsC off cut true (nI i) (some (.int (nI v))) none) [] NC 0 0 I (up2 J0 70 30 (lN (c + 1))) (RR co dr cc a1 a2) := by
        intro hlt
        refine V_aload_n dX11_cast_118 rfl rfl (V_iload dX11_cast_119 rfl ?_)
        refine V_putI dX11_cast_121 fl_X11_216 (by first | assumption | exact ⟨by decide, rfl⟩) ?_
        refine V_iconst (v := 0) dX11_cast_124 (by decide) (V_istore_6 dX11_cast_125 (by decide) rfl ?_)
        have key : ∀ k, k ≤ K 0 1 → ∀ I2, (∀ x y, x ≠ 96 → (x ≠ 70 ∨ y ≠ 31) → I2 x y = I x y) → I2 70 31 = nI v → (∀ j, j < k → I2 96 j = I 95 j) → V E 4 M_X11_cast Post 127 (LsC off cut true (nI i) (some (.int (nI v))) (some (.int (nI k)))) [] NC 0 0 I2 (up2 J0 70 30 (lN (c + 1))) (RR co dr cc a1 a2) := by
          refine loop_up (K 0 1) ?_ ?_
          · intro I2 g1 g2 g3
            refine V_iload dX11_cast_127 rfl (V_aload_n dX11_cast_129 rfl rfl ?_)
            refine V_getR dX11_cast_130 fl_X11_22 (by first | assumption | exact ⟨by decide, rfl⟩) (by first | assumption | rfl) ?_
            refine V_iconst (v := 0) dX11_cast_133 (by decide) ?_
            refine V_ial dX11_cast_134 (by first | assumption | exact ⟨by decide, rfl⟩) (show ix _ 0 _ from ⟨rfl, by decide⟩) ?_
            refine V_icmp_ge_t (tgt := 158) dX11_cast_135 (by decide) (by rw [g1 _ _ (by omega) (by omega), hM'.n1]; exact nI_le (by omega) (by omega)) ?_
            refine t158 I2 _ (fun x y w1 w2 w3 w4 => by rw [g1 _ _ w2 w4]; exact hF x y w1 w2 w3 w4) ⟨fun j hj => by rw [g1 _ _ (by omega) (by omega)]; exact hPi.1 j hj, fun j h1 h2 => by rw [g1 _ _ (by omega) (by omega)]; exact hPi.2 j h1 h2⟩ (fun p hp => by rw [g1 _ _ (by omega) (by omega)]; exact hH p hp) ?_
            rw [if_pos hlt]
            exact Or.inr ⟨by show v < _; omega, g2, fun j hj => by rw [g3 j hj]; exact hPi.1 j (by omega)⟩
          · intro k hk ih I2 g1 g2 g3
            refine V_iload dX11_cast_127 rfl (V_aload_n dX11_cast_129 rfl rfl ?_)
            refine V_getR dX11_cast_130 fl_X11_22 (by first | assumption | exact ⟨by decide, rfl⟩) (by first | assumption | rfl) ?_
            refine V_iconst (v := 0) dX11_cast_133 (by decide) ?_
            refine V_ial dX11_cast_134 (by first | assumption | exact ⟨by decide, rfl⟩) (show ix _ 0 _ from ⟨rfl, by decide⟩) ?_
            refine V_icmp_ge_f (tgt := 158) dX11_cast_135 (by decide) (by rw [g1 _ _ (by omega) (by omega), hM'.n1]; exact nI_ge hk (by omega)) ?_
            refine V_aload_n dX11_cast_138 rfl rfl ?_
            refine V_getR dX11_cast_139 fl_X11_85 (by first | assumption | exact ⟨by decide, rfl⟩) (by first | assumption | rfl) ?_
            refine V_iload dX11_cast_142 rfl (V_aload_n dX11_cast_144 rfl rfl ?_)
            refine V_getR dX11_cast_145 fl_X11_82 (by first | assumption | exact ⟨by decide, rfl⟩) (by first | assumption | rfl) ?_
            refine V_iload dX11_cast_148 rfl ?_
            refine V_ial dX11_cast_150 (by first | assumption | exact ⟨by decide, rfl⟩) (show ix _ k 8 from ⟨rfl, by omega⟩) ?_
            refine V_ias dX11_cast_151 (by first | assumption | exact ⟨by decide, rfl⟩) (show ix _ k 8 from ⟨rfl, by omega⟩) ?_
            refine V_iinc_6 (w := 1) dX11_cast_152 (by decide) (by decide) rfl (V_goto (tgt := 127) dX11_cast_155 (by decide) ?_)
            rw [nI_1]
            refine ih _ (fun x y w1 w2 => by rw [u2n (by omega)]; exact g1 x y w1 w2) (by rw [u2n (by omega)]; exact g2) (fun j hj => ?_)
            by_cases hjk : j = k
            · rw [hjk, u2e, g1 _ _ (by omega) (by omega)]
            · rw [u2n (by omega)]; exact g3 j (by omega)
        exact key 0 (Nat.zero_le _) _ (fun x y w1 w2 => u2n (by omega)) u2e (fun j hj => absurd hj (by omega))
      rcases hA with ⟨q1, q2⟩ | ⟨q1, q2, q3⟩
      · refine V_istore_5 dX11_cast_100 (by decide) rfl (V_aload_n dX11_cast_102 rfl rfl ?_)
        refine V_getI dX11_cast_103 fl_X11_216 (by first | assumption | exact ⟨by decide, rfl⟩) ?_
        refine V_if_lt_t (tgt := 118) dX11_cast_106 (by decide) (by rw [q2]; decide) ?_
        exact t118 (by omega)
      · by_cases hlt : v < a.1
        · refine V_istore_5 dX11_cast_100 (by decide) rfl (V_aload_n dX11_cast_102 rfl rfl ?_)
          refine V_getI dX11_cast_103 fl_X11_216 (by first | assumption | exact ⟨by decide, rfl⟩) ?_
          refine V_if_lt_f (tgt := 118) dX11_cast_106 (by decide) (by rw [q2]; exact nI_nn (by omega)) ?_
          refine V_iload dX11_cast_109 rfl (V_aload_n dX11_cast_111 rfl rfl ?_)
          refine V_getI dX11_cast_112 fl_X11_216 (by first | assumption | exact ⟨by decide, rfl⟩) ?_
          refine V_icmp_ge_f (tgt := 158) dX11_cast_115 (by decide) (by rw [q2]; exact nI_ge hlt (by omega)) ?_
          exact t118 hlt
        · refine V_istore_5 dX11_cast_100 (by decide) rfl (V_aload_n dX11_cast_102 rfl rfl ?_)
          refine V_getI dX11_cast_103 fl_X11_216 (by first | assumption | exact ⟨by decide, rfl⟩) ?_
          refine V_if_lt_f (tgt := 118) dX11_cast_106 (by decide) (by rw [q2]; exact nI_nn (by omega)) ?_
          refine V_iload dX11_cast_109 rfl (V_aload_n dX11_cast_111 rfl rfl ?_)
          refine V_getI dX11_cast_112 fl_X11_216 (by first | assumption | exact ⟨by decide, rfl⟩) ?_
          refine V_icmp_ge_t (tgt := 158) dX11_cast_115 (by decide) (by rw [q2]; exact nI_le (by omega) (by omega)) ?_
          exact t158 I _ hF hPi hH (by rw [if_neg hlt]; exact Or.inr ⟨q1, q2, q3⟩)
  | succ r ih =>
    intro i pre tk c a I hi hpl htk hz hle hts hF hPi hH hA hret hfin
    have hM' := hF.MB hB hM
    have hne : ¬ nI i = nI (K 0 1) := fun z => by have := (nI_eq (by omega) (by omega)).mp z; omega
    have htk1 : ∀ p, tk p < 2 ^ (i + 1) := fun p => Nat.lt_of_lt_of_le (htk p) (Nat.pow_le_pow_right (by decide) (by omega))
    refine V_iload dX11_cast_63 rfl ?_
    refine V_if_lt_f (tgt := 306) dX11_cast_65 (by decide) (nI_nn (by omega)) ?_
    refine V_iload dX11_cast_68 rfl (V_aload_n dX11_cast_70 rfl rfl ?_)
    refine V_getR dX11_cast_71 fl_X11_22 (by first | assumption | exact ⟨by decide, rfl⟩) (by first | assumption | rfl) ?_
    refine V_iconst (v := 0) dX11_cast_74 (by decide) ?_
    refine V_ial dX11_cast_75 (by first | assumption | exact ⟨by decide, rfl⟩) (show ix _ 0 _ from ⟨rfl, by decide⟩) ?_
    refine V_icmp_ne_t (tgt := 171) dX11_cast_76 (by decide) (by rw [hM'.n1]; exact hne) ?_
    refine V_iload_n dX11_cast_171 rfl rfl (V_iload dX11_cast_172 rfl ?_)
    refine V_cS2i (M' := M_X11_has) (d' := 1) dX11_cast_174 (Or.inl ml_X11_183) kb_X11_has (by first | decide | omega) (by simp [Value.category]) ⟨by decide, by decide⟩ ?_
    refine sp_mhas hcut (by omega) ⟨_, rfl, ?_⟩
    cases hct : cut.testBit i
    · have hct' : ctf cut i = false := hct
      rw [CL_all hct'] at hret hfin
      have esb : sbk cut (i + 1) = nI i := by rw [sbk, hct]; rfl
      -- the players from q on
      have X : ∀ n q c a I, K 0 0 - q < n → q ≤ K 0 0 → FrC I0 I → (∀ j, j < i → I 95 j = owv (pre.getD j 0)) → (∀ j, i < j → j < 8 → I 95 j = -4) → HAV I tk → ACC I (K 0 1) a →
          (all = false → CLp (K 0 0) (okf K off) (ctf cut) (clashM K) r i tk q ≠ [] → ∀ I' J', FrC I0 I' → (∀ x y, (x ≠ 70 ∨ y ≠ 30) → J' x y = J0 x y) → Post (some (.int 1)) NC I' J' (RR co dr cc a1 a2)) →
          (all = true ∨ CLp (K 0 0) (okf K off) (ctf cut) (clashM K) r i tk q = [] → ∀ I', FrC I0 I' → PIL I' i pre → HAV I' tk → ACC I' (K 0 1) (bst (trb K D.1 D.2.1) i (TS (trb K D.1 D.2.1) 0 pre) pre (CLp (K 0 0) (okf K off) (ctf cut) (clashM K) r i tk q) a) → V E 4 M_X11_cast Post 63 (LsC off cut all (sbk cut i) none none) [] NC 0 0 I' (up2 J0 70 30 (lN (c + (CLp (K 0 0) (okf K off) (ctf cut) (clashM K) r i tk q).length))) (RR co dr cc a1 a2)) →
          V E 4 M_X11_cast Post 242 (LsC off cut all (nI i) (some (.int (nI q))) none) [] NC 0 0 I (up2 J0 70 30 (lN c)) (RR co dr cc a1 a2) := by
        intro n
        induction n with
        | zero => intro q c a I hn; omega
        | succ n ihn =>
          intro q c a I hn hq hF hp1 hp2 hH hA hret hfin
          have hM' := hF.MB hB hM
          have hnx := CLp_nx (P := K 0 0) (ok := okf K off) (ct := ctf cut) (cm := clashM K) (r := r) (i := i) (tk := tk) (K 0 0 - q) q (by omega)
          refine V_aload_n dX11_cast_242 rfl rfl ?_
          refine V_getR dX11_cast_243 fl_X11_82 (by first | assumption | exact ⟨by decide, rfl⟩) (by first | assumption | rfl) ?_
          refine V_iload dX11_cast_246 rfl (V_aload_n dX11_cast_248 rfl rfl (V_iload dX11_cast_249 rfl (V_iload dX11_cast_251 rfl (V_iload_n dX11_cast_253 rfl rfl ?_))))
          refine V_cV3i (M' := M_X11_nextFor) (d' := 2) dX11_cast_254 (Or.inl ml_X11_225) kb_X11_nextFor (by first | assumption | exact ⟨by decide, rfl⟩) (by first | decide | omega) (by simp [Value.category]) ⟨by decide, by decide⟩ ?_
          refine mr_nextFor hB hM' (hF.MR hR) hoff hH (by omega) htk hq ⟨_, rfl, ?_⟩
          cases hx : nxf (fun p => fre (okf K off) (clashM K) tk p i) (K 0 0 - q) q with
          | none =>
            rw [hx] at hnx
            have hnx : CLp (K 0 0) (okf K off) (ctf cut) (clashM K) r i tk q = [] := hnx
            rw [hnx] at hfin
            show V E 4 M_X11_cast Post 257 _ [.int (-4), .int (nI i), .ref 95] NC 0 0 I _ _
            refine V_ias dX11_cast_257 (by first | assumption | exact ⟨by decide, rfl⟩) (show ix _ i 8 from ⟨rfl, by omega⟩) ?_
            refine V_aload_n dX11_cast_258 rfl rfl ?_
            refine V_getR dX11_cast_259 fl_X11_82 (by first | assumption | exact ⟨by decide, rfl⟩) (by first | assumption | rfl) ?_
            refine V_iload dX11_cast_262 rfl ?_
            refine V_ial dX11_cast_264 (by first | assumption | exact ⟨by decide, rfl⟩) (show ix _ i 8 from ⟨rfl, by omega⟩) ?_
            refine V_if_lt_t (tgt := 293) dX11_cast_265 (by decide) (by rw [u2e]; decide) ?_
            refine V_iload dX11_cast_293 rfl (V_iconst (v := 1) dX11_cast_295 (by decide) (V_isub dX11_cast_296 (V_iload_n dX11_cast_297 rfl rfl ?_)))
            refine V_cS2i (M' := M_X11_stepBack) (d' := 2) dX11_cast_298 (Or.inl ml_X11_222) kb_X11_stepBack (by first | decide | omega) (by simp [Value.category]) ⟨by decide, by decide⟩ ?_
            refine mr_stepBack hcut (by omega) ⟨_, rfl, ?_⟩
            refine V_istore_4 dX11_cast_301 (by decide) rfl (V_goto (tgt := 63) dX11_cast_303 (by decide) ?_)
            refine V_forget (hfin (Or.inr rfl) _ (fun x y w1 w2 w3 w4 => by rw [u2n (by omega)]; exact hF x y w1 w2 w3 w4) ⟨fun j hj => by rw [u2n (by omega)]; exact hp1 j hj, fun j h1 h2 => ?_⟩ (fun p hp => by rw [u2n (by omega)]; exact hH p hp) (hA.of (u2n (by omega)) (fun y => u2n (by omega)))) (by simp [lessb, LsC])
            by_cases hji : j = i
            · rw [hji, u2e]
            · rw [u2n (by omega)]; exact hp2 j (by omega) h2
          | some p =>
            obtain ⟨p1, p2, p3⟩ := nxf_in hx
            rw [hx] at hnx
            have hnx : CLp (K 0 0) (okf K off) (ctf cut) (clashM K) r i tk q = (CL (K 0 0) (okf K off) (ctf cut) (clashM K) r (i + 1) (tset tk p i)).map (fun l => (p + 1) :: l) ++ CLp (K 0 0) (okf K off) (ctf cut) (clashM K) r i tk (p + 1) := hnx
            rw [hnx] at hret hfin
            have hpP : p < K 0 0 := by omega
            have htb := trb_le hB (td := D.1) (sd := D.2.1) hpP (show i < K 0 1 by omega)
            show V E 4 M_X11_cast Post 257 _ [.int (nI p), .int (nI i), .ref 95] NC 0 0 I _ _
            have ei : ix (up2 I 95 i (nI p) 95 i) p 10 := ⟨u2e, by omega⟩
            refine V_ias dX11_cast_257 (by first | assumption | exact ⟨by decide, rfl⟩) (show ix _ i 8 from ⟨rfl, by omega⟩) ?_
            refine V_aload_n dX11_cast_258 rfl rfl ?_
            refine V_getR dX11_cast_259 fl_X11_82 (by first | assumption | exact ⟨by decide, rfl⟩) (by first | assumption | rfl) ?_
            refine V_iload dX11_cast_262 rfl ?_
            refine V_ial dX11_cast_264 (by first | assumption | exact ⟨by decide, rfl⟩) (show ix _ i 8 from ⟨rfl, by omega⟩) ?_
            refine V_if_lt_f (tgt := 293) dX11_cast_265 (by decide) (by rw [u2e]; exact nI_nn (by omega)) ?_
            refine V_aload_n dX11_cast_268 rfl rfl ?_
            refine V_getR dX11_cast_269 fl_X11_88 (by first | assumption | exact ⟨by decide, rfl⟩) (by first | assumption | rfl) ?_
            refine V_aload_n dX11_cast_272 rfl rfl ?_
            refine V_getR dX11_cast_273 fl_X11_82 (by first | assumption | exact ⟨by decide, rfl⟩) (by first | assumption | rfl) ?_
            refine V_iload dX11_cast_276 rfl ?_
            refine V_ial dX11_cast_278 (by first | assumption | exact ⟨by decide, rfl⟩) (show ix _ i 8 from ⟨rfl, by omega⟩) ?_
            refine V_dup2 dX11_cast_279 rfl rfl ?_
            refine V_ial dX11_cast_280 (by first | assumption | exact ⟨by decide, rfl⟩) ei ?_
            refine V_iconst (v := 1) dX11_cast_281 (by decide) (V_iload dX11_cast_282 rfl (V_ishl dX11_cast_284 (V_ior dX11_cast_285 ?_)))
            refine V_ias dX11_cast_286 (by first | assumption | exact ⟨by decide, rfl⟩) ei ?_
            refine V_iinc_4 (w := 1) dX11_cast_287 (by decide) (by decide) rfl (V_goto (tgt := 303) dX11_cast_290 (by decide) (V_goto (tgt := 63) dX11_cast_303 (by decide) ?_))
            rw [u2n (a := 97) (by omega), hH p (by omega), shl1 (by omega), or_nI, nI_1]
            have hlen1 : (pre ++ [p + 1]).length = i + 1 := by simp [hpl]
            have hTa : TS (trb K D.1 D.2.1) 0 (pre ++ [p + 1]) = TS (trb K D.1 D.2.1) 0 pre + trb K D.1 D.2.1 p i := by
              rw [TS_app, if_neg (by omega), Nat.add_sub_cancel, Nat.zero_add, hpl]
            have hts1 : TS (trb K D.1 D.2.1) 0 (pre ++ [p + 1]) ≤ (i + 1) * 1990 := by rw [hTa]; omega
            refine V_forget (ih (i + 1) (pre ++ [p + 1]) (tset tk p i) c a _ (by omega) hlen1 (fun p' => ?_) (fun j hj => ?_) (fun j => ?_) hts1 (fun x y w1 w2 w3 w4 => by rw [u2n (by omega), u2n (by omega)]; exact hF x y w1 w2 w3 w4) ⟨fun j hj => ?_, fun j h1 h2 => by rw [u2n (by omega), u2n (by omega)]; exact hp2 j (by omega) h2⟩ (fun p' hp' => ?_) (hA.of (by rw [u2n (by omega), u2n (by omega)]) (fun y => by rw [u2n (by omega), u2n (by omega)])) (fun z1 z2 I' J' k1 k2 => hret z1 (by simp [z2]) I' J' k1 k2) (fun z I' k1 k2 k3 k4 => ?_)) (by simp [lessb, LsC])
            · unfold tset
              split
              · exact Nat.or_lt_two_pow (htk1 _) (Nat.pow_lt_pow_right (by decide) (by omega))
              · exact htk1 _
            · by_cases hji : j = i
              · rw [hji, ← hpl, getD_app2, hpl, hct]; simp
              · rw [getD_app1 (by omega)]; exact hz j (by omega)
            · by_cases hj : j < pre.length
              · rw [getD_app1 hj]; exact hle j
              · by_cases hj2 : j = pre.length
                · rw [hj2, getD_app2]; omega
                · rw [List.getD_eq_getElem?_getD, List.getElem?_eq_none (by simp; omega)]; exact Nat.zero_le _
            · rw [u2n (by omega)]
              by_cases hji : j = i
              · rw [hji, u2e, ← hpl, getD_app2, owv, if_neg (by omega), Nat.add_sub_cancel]
              · rw [u2n (by omega), getD_app1 (by omega)]; exact hp1 j (by omega)
            · unfold tset
              by_cases hpp : p' = p
              · rw [hpp, u2e, if_pos rfl]
              · rw [u2n (by omega), u2n (by omega), if_neg hpp]; exact hH p' hp'
            · -- the next player
              have hM2 := k1.MB hB hM
              have h95 : I' 95 i = nI p := by
                rw [k2.1 i (by omega), ← hpl, getD_app2, owv, if_neg (by omega), Nat.add_sub_cancel]
              have h97 : I' 97 p = nI (tk p ||| 2 ^ i) := by rw [k3 p (by omega)]; unfold tset; rw [if_pos rfl]
              rw [esb]
              refine V_iload dX11_cast_63 rfl ?_
              refine V_if_lt_f (tgt := 306) dX11_cast_65 (by decide) (nI_nn (by omega)) ?_
              refine V_iload dX11_cast_68 rfl (V_aload_n dX11_cast_70 rfl rfl ?_)
              refine V_getR dX11_cast_71 fl_X11_22 (by first | assumption | exact ⟨by decide, rfl⟩) (by first | assumption | rfl) ?_
              refine V_iconst (v := 0) dX11_cast_74 (by decide) ?_
              refine V_ial dX11_cast_75 (by first | assumption | exact ⟨by decide, rfl⟩) (show ix _ 0 _ from ⟨rfl, by decide⟩) ?_
              refine V_icmp_ne_t (tgt := 171) dX11_cast_76 (by decide) (by rw [hM2.n1]; exact hne) ?_
              refine V_iload_n dX11_cast_171 rfl rfl (V_iload dX11_cast_172 rfl ?_)
              refine V_cS2i (M' := M_X11_has) (d' := 1) dX11_cast_174 (Or.inl ml_X11_183) kb_X11_has (by first | decide | omega) (by simp [Value.category]) ⟨by decide, by decide⟩ ?_
              refine sp_mhas hcut (by omega) ⟨_, rfl, ?_⟩
              rw [hct]
              have ej : ix (I' 95 i) p 10 := ⟨h95, by omega⟩
              refine V_if_eq_t (tgt := 186) dX11_cast_177 (by decide) (rfl) ?_
              refine V_aload_n dX11_cast_186 rfl rfl ?_
              refine V_getR dX11_cast_187 fl_X11_82 (by first | assumption | exact ⟨by decide, rfl⟩) (by first | assumption | rfl) ?_
              refine V_iload dX11_cast_190 rfl ?_
              refine V_ial dX11_cast_192 (by first | assumption | exact ⟨by decide, rfl⟩) (show ix _ i 8 from ⟨rfl, by omega⟩) ?_
              refine V_if_ge_t (tgt := 200) dX11_cast_193 (by decide) (by rw [h95]; exact nI_pos' (by omega)) ?_
              refine V_aload_n dX11_cast_200 rfl rfl ?_
              refine V_getR dX11_cast_201 fl_X11_82 (by first | assumption | exact ⟨by decide, rfl⟩) (by first | assumption | rfl) ?_
              refine V_iload dX11_cast_204 rfl ?_
              refine V_ial dX11_cast_206 (by first | assumption | exact ⟨by decide, rfl⟩) (show ix _ i 8 from ⟨rfl, by omega⟩) ?_
              refine V_iconst (v := 1) dX11_cast_207 (by decide) (V_iadd dX11_cast_208 (V_istore_5 dX11_cast_209 (by decide) rfl (V_aload_n dX11_cast_211 rfl rfl ?_)))
              refine V_getR dX11_cast_212 fl_X11_82 (by first | assumption | exact ⟨by decide, rfl⟩) (by first | assumption | rfl) ?_
              refine V_iload dX11_cast_215 rfl ?_
              refine V_ial dX11_cast_217 (by first | assumption | exact ⟨by decide, rfl⟩) (show ix _ i 8 from ⟨rfl, by omega⟩) ?_
              refine V_if_lt_f (tgt := 242) dX11_cast_218 (by decide) (by rw [h95]; exact nI_nn (by omega)) ?_
              refine V_aload_n dX11_cast_221 rfl rfl ?_
              refine V_getR dX11_cast_222 fl_X11_88 (by first | assumption | exact ⟨by decide, rfl⟩) (by first | assumption | rfl) ?_
              refine V_aload_n dX11_cast_225 rfl rfl ?_
              refine V_getR dX11_cast_226 fl_X11_82 (by first | assumption | exact ⟨by decide, rfl⟩) (by first | assumption | rfl) ?_
              refine V_iload dX11_cast_229 rfl ?_
              refine V_ial dX11_cast_231 (by first | assumption | exact ⟨by decide, rfl⟩) (show ix _ i 8 from ⟨rfl, by omega⟩) ?_
              refine V_dup2 dX11_cast_232 rfl rfl ?_
              refine V_ial dX11_cast_233 (by first | assumption | exact ⟨by decide, rfl⟩) ej ?_
              refine V_iconst (v := 1) dX11_cast_234 (by decide) (V_iload dX11_cast_235 rfl (V_ishl dX11_cast_237 (V_iconst (v := (-1)) dX11_cast_238 (by decide) (V_ixor dX11_cast_239 (V_iand dX11_cast_240 ?_)))))
              refine V_ias dX11_cast_241 (by first | assumption | exact ⟨by decide, rfl⟩) ej ?_
              rw [h95, h97, shl1 (by omega), andn_nI, or_andn (htk p), nI_1]
              have hall' : all = true ∨ CL (K 0 0) (okf K off) (ctf cut) (clashM K) r (i + 1) (tset tk p i) = [] := z
              have eb : bst (trb K D.1 D.2.1) (i + 1) (TS (trb K D.1 D.2.1) 0 (pre ++ [p + 1])) (pre ++ [p + 1]) (CL (K 0 0) (okf K off) (ctf cut) (clashM K) r (i + 1) (tset tk p i)) a = bst (trb K D.1 D.2.1) i (TS (trb K D.1 D.2.1) 0 pre) pre ((CL (K 0 0) (okf K off) (ctf cut) (clashM K) r (i + 1) (tset tk p i)).map (fun l => (p + 1) :: l)) a := by
                rw [bst_map, hTa, if_neg (by omega), Nat.add_sub_cancel]
              rw [eb] at k4
              refine V_forget (ihn (p + 1) _ _ _ (by omega) (by omega) (fun x y w1 w2 w3 w4 => by rw [u2n (by omega)]; exact k1 x y w1 w2 w3 w4) (fun j hj => by rw [u2n (by omega), k2.1 j (by omega), getD_app1 (by omega)]) (fun j h1 h2 => by rw [u2n (by omega)]; exact k2.2 j (by omega) h2) (fun p' hp' => ?_) (k4.of (by rw [u2n (by omega)]) (fun y => by rw [u2n (by omega)])) (fun y1 y2 => hret y1 (by simp [y2])) (fun y I9 m1 m2 m3 m4 => ?_)) (by simp [lessb, LsC])
              · by_cases hpp : p' = p
                · rw [hpp, u2e]
                · rw [u2n (by omega), k3 p' hp']; unfold tset; rw [if_neg hpp]
              · have hy : all = true ∨ (CL (K 0 0) (okf K off) (ctf cut) (clashM K) r (i + 1) (tset tk p i)).map (fun l => (p + 1) :: l) ++ CLp (K 0 0) (okf K off) (ctf cut) (clashM K) r i tk (p + 1) = [] := by
                  rcases z with z | z
                  · exact Or.inl z
                  · rcases y with y | y
                    · exact Or.inl y
                    · exact Or.inr (by rw [z, y]; rfl)
                have h9 := hfin hy I9 m1 m2 m3 (by rw [bst_app]; exact m4)
                rw [List.length_append, List.length_map, ← Nat.add_assoc] at h9
                exact h9
      refine V_if_eq_t (tgt := 186) dX11_cast_177 (by decide) (rfl) ?_
      refine V_aload_n dX11_cast_186 rfl rfl ?_
      refine V_getR dX11_cast_187 fl_X11_82 (by first | assumption | exact ⟨by decide, rfl⟩) (by first | assumption | rfl) ?_
      refine V_iload dX11_cast_190 rfl ?_
      refine V_ial dX11_cast_192 (by first | assumption | exact ⟨by decide, rfl⟩) (show ix _ i 8 from ⟨rfl, by omega⟩) ?_
      refine V_if_ge_f (tgt := 200) dX11_cast_193 (by decide) (by rw [hPi.2 i (by omega) (by omega)]; decide) ?_
      refine V_iconst (v := 0) dX11_cast_196 (by decide) (V_goto (tgt := 209) dX11_cast_197 (by decide) (V_istore_5 dX11_cast_209 (by decide) rfl (V_aload_n dX11_cast_211 rfl rfl ?_)))
      refine V_getR dX11_cast_212 fl_X11_82 (by first | assumption | exact ⟨by decide, rfl⟩) (by first | assumption | rfl) ?_
      refine V_iload dX11_cast_215 rfl ?_
      refine V_ial dX11_cast_217 (by first | assumption | exact ⟨by decide, rfl⟩) (show ix _ i 8 from ⟨rfl, by omega⟩) ?_
      refine V_if_lt_t (tgt := 242) dX11_cast_218 (by decide) (by rw [hPi.2 i (by omega) (by omega)]; decide) ?_
      exact X (K 0 0 + 1) 0 c a I (by omega) (by omega) hF hPi.1 (fun j h1 h2 => hPi.2 j (by omega) h2) hH hA hret hfin
    · have hct' : ctf cut i = true := hct
      rw [CL_cut hct'] at hret hfin
      refine V_if_eq_f (tgt := 186) dX11_cast_177 (by decide) (by decide) ?_
      refine V_iinc_4 (w := 1) dX11_cast_180 (by decide) (by decide) rfl (V_goto (tgt := 63) dX11_cast_183 (by decide) ?_)
      rw [nI_1]
      have hTa : TS (trb K D.1 D.2.1) 0 (pre ++ [0]) = TS (trb K D.1 D.2.1) 0 pre := by rw [TS_app, if_pos rfl, Nat.add_zero]
      have eo : owv 0 = -4 := rfl
      refine ih (i + 1) (pre ++ [0]) tk c a I (by omega) (by simp [hpl]) htk1 (fun j hj => ?_) (fun j => ?_) (Nat.le_trans (Nat.le_of_eq hTa) (Nat.le_trans hts (Nat.mul_le_mul_right 1990 (Nat.le_succ i)))) hF ⟨fun j hj => ?_, fun j h1 h2 => hPi.2 j (by omega) h2⟩ hH hA (fun z1 z2 => hret z1 (by simp [z2])) (fun z I' k1 k2 k3 k4 => ?_)
      · by_cases hji : j = i
        · rw [hji, ← hpl, getD_app2, hpl, hct]; simp
        · rw [getD_app1 (by omega)]; exact hz j (by omega)
      · by_cases hj : j < pre.length
        · rw [getD_app1 hj]; exact hle j
        · by_cases hj2 : j = pre.length
          · rw [hj2, getD_app2]; omega
          · rw [List.getD_eq_getElem?_getD, List.getElem?_eq_none (by simp; omega)]; exact Nat.zero_le _
      · by_cases hji : j = i
        · rw [hji, ← hpl, getD_app2, eo, hpl]; exact hPi.2 i (by omega) (by omega)
        · rw [getD_app1 (by omega)]; exact hPi.1 j (by omega)
      · have esb : sbk cut (i + 1) = sbk cut i := by rw [sbk, hct]; rfl
        rw [esb]
        rw [bst_map, List.length_map, if_pos rfl, Nat.add_zero] at hfin
        rw [hTa] at k4
        refine hfin (by rcases z with z | z; exact Or.inl z; exact Or.inr (by rw [z]; rfl)) I' k1 ⟨fun j hj => by rw [k2.1 j (by omega), getD_app1 (by omega)], fun j h1 h2 => ?_⟩ k3 k4
        by_cases hji : j = i
        · rw [hji, k2.1 i (by omega), ← hpl, getD_app2]; rfl
        · exact k2.2 j (by omega) h2
theorem mr_cast {I : TI} {J : TJ} (hB : KB K) (hM : MB I K) (hR : MR I K) (hD : MDX I 0 D) (hDB : DB D.1 D.2.1) (hoff : off < 2 ^ 31) (hcut : cut < 2 ^ 31) (Kf : all = false → ∀ I' J', FrC I I' → (∀ x y, (x ≠ 70 ∨ y ≠ 30) → J' x y = J x y) → Post (some (.int (b2i (metB K off cut)))) NC I' J' (RR co dr cc a1 a2)) (Kt : all = true → ∀ I' J', FrC I I' → (∀ x y, (x ≠ 70 ∨ y ≠ 30) → J' x y = J x y) → J' 70 30 = lN (CL (K 0 0) (okf K off) (ctf cut) (clashM K) (K 0 1) 0 (fun _ => 0)).length → ACC I' (K 0 1) (lea K off cut D.1 D.2.1) → Post (some (.int (b2i (metB K off cut)))) NC I' J' (RR co dr cc a1 a2)) : Cal E 4 M_X11_cast [.ref 70, .int (nI off), .int (nI cut), .int (b2i all)] NC I J (RR co dr cc a1 a2) Post := by
  have hP := hB.1.1
  have hQ := hB.1.2.1
  have hmet : metB K off cut = true ↔ CL (K 0 0) (okf K off) (ctf cut) (clashM K) (K 0 1) 0 (fun _ => 0) ≠ [] := by
    unfold metB
    rw [dcd_iff]
    unfold MET
    exact ⟨fun ⟨l, hl⟩ => List.ne_nil_of_mem hl, fun h => List.exists_mem_of_ne_nil _ h⟩
  have hcnt : (CL (K 0 0) (okf K off) (ctf cut) (clashM K) (K 0 1) 0 (fun _ => 0)).length < 2 ^ 31 := by
    by_cases hz : K 0 0 = 0
    · have h1 : (CL (K 0 0) (okf K off) (ctf cut) (clashM K) (K 0 1) 0 (fun _ => 0)).length ≤ 1 := CL_zero hz _ _ _
      omega
    · have h1 := CL_count (P := K 0 0) (ok := okf K off) (ct := ctf cut) (cm := clashM K) (K 0 1) 0 (fun _ => 0) (by omega)
      have h2 : K 0 0 ^ K 0 1 ≤ 10 ^ K 0 1 := Nat.pow_le_pow_left hP _
      have h3 : (10 : Nat) ^ K 0 1 ≤ 10 ^ 8 := Nat.pow_le_pow_right (by decide) hQ
      have : (10 : Nat) ^ 8 = 100000000 := by decide
      omega
  refine Cal_of kn_X11_cast rfl (Nat.le_of_ble_eq_true rfl) ?_
  refine V_aload_n dX11_cast_0 rfl rfl (V_lconst (v := 0) dX11_cast_1 rfl ?_)
  refine V_putJ dX11_cast_2 fl_X11_212 (by first | assumption | exact ⟨by decide, rfl⟩) ?_
  refine V_aload_n dX11_cast_5 rfl rfl (V_bipush (v := (-4)) dX11_cast_6 (by decide) ?_)
  refine V_putI dX11_cast_8 fl_X11_216 (by first | assumption | exact ⟨by decide, rfl⟩) ?_
  refine V_iconst (v := 0) dX11_cast_11 (by decide) (V_istore_4 dX11_cast_12 (by decide) rfl ?_)
  have hC : FrC I (up2 I 70 31 (-4)) := fun x y w1 w2 w3 w4 => u2n (by omega)
  have key1 : ∀ k, k ≤ 10 → ∀ I1, FrC I I1 → I1 70 31 = -4 → (∀ p, p < k → I1 97 p = 0) → V E 4 M_X11_cast Post 14 (LsC off cut all (nI k) none none) [] NC 0 0 I1 (up2 J 70 30 0) (RR co dr cc a1 a2) := by
    refine loop_up 10 ?_ ?_
    · intro I1 f1 h31 h97
      refine V_iload dX11_cast_14 rfl (V_bipush (v := 10) dX11_cast_16 (by decide) ?_)
      refine V_icmp_ge_t (tgt := 35) dX11_cast_18 (by decide) (nI_le (a := 10) (b := 10) (by decide) (by decide)) ?_
      refine V_iconst (v := 0) dX11_cast_35 (by decide) (V_istore_4 dX11_cast_36 (by decide) rfl ?_)
      have key2 : ∀ k, k ≤ 8 → ∀ I2, FrC I I2 → I2 70 31 = -4 → (∀ p, p < 10 → I2 97 p = 0) → (∀ j, j < k → I2 95 j = -4) → V E 4 M_X11_cast Post 38 (LsC off cut all (nI k) none none) [] NC 0 0 I2 (up2 J 70 30 0) (RR co dr cc a1 a2) := by
        refine loop_up 8 ?_ ?_
        · intro I2 f2 h31 h97 h95
          refine V_iload dX11_cast_38 rfl (V_bipush (v := 8) dX11_cast_40 (by decide) ?_)
          refine V_icmp_ge_t (tgt := 60) dX11_cast_42 (by decide) (nI_le (a := 8) (b := 8) (by decide) (by decide)) ?_
          refine V_iconst (v := 0) dX11_cast_60 (by decide) (V_istore_4 dX11_cast_61 (by decide) rfl ?_)
          have hcore := cast_core (E := E) (J0 := J) (co := co) (dr := dr) (cc := cc) (a1 := a1) (a2 := a2) (Post := Post) (off := off) (cut := cut) (all := all) hB hM hR hD hDB hoff hcut (K 0 1) 0 [] (fun _ => 0) 0 (1000000, []) I2 (by omega) rfl (fun p => by decide) (fun j hj => absurd hj (by omega)) (fun j => by simp) (Nat.zero_le _) f2 ⟨fun j hj => absurd hj (by omega), fun j _ hj => h95 j hj⟩ (fun p hp => h97 p hp) (Or.inl ⟨rfl, h31⟩)
          refine hcore (fun hf hne I' J' k1 k2 => ?_) (fun ho I' k1 k2 k3 k4 => ?_)
          · have h9 := Kf hf I' J' k1 k2
            rw [hmet.mpr hne] at h9
            exact h9
          · have k5 : ACC I' (K 0 1) (lea K off cut D.1 D.2.1) := k4
            rw [Nat.zero_add]
            show V E 4 M_X11_cast Post 63 (LsC off cut all (-1) none none) [] NC 0 0 I' _ _
            generalize hL : CL (K 0 0) (okf K off) (ctf cut) (clashM K) (K 0 1) 0 (fun _ => 0) = L at *
            have hlc : ∀ z : Bool, metB K off cut = z → Post (some (.int (b2i z))) NC I' (up2 J 70 30 (lN L.length)) (RR co dr cc a1 a2) := by
              intro z hz
              cases hal : all
              · have h9 := Kf hal I' (up2 J 70 30 (lN L.length)) k1 (fun x y h => u2n (by omega))
                rw [hz] at h9
                exact h9
              · have h9 := Kt hal I' (up2 J 70 30 (lN L.length)) k1 (fun x y h => u2n (by omega)) u2e k5
                rw [hz] at h9
                exact h9
            have hcmp : lg_cmp (lN L.length) 0 ≤ 0 ↔ L = [] := by
              rw [lg_cmp_le, fa_le64, show (0 : Int64).toInt = 0 from by decide, lN_toInt hcnt]
              constructor
              · intro h; exact List.length_eq_zero_iff.mp (by omega)
              · intro h; rw [h]; simp
            by_cases hLn : L = []
            · refine V_iload dX11_cast_63 rfl ?_
              refine V_if_lt_t (tgt := 306) dX11_cast_65 (by decide) (by decide) ?_
              refine V_aload_n dX11_cast_306 rfl rfl ?_
              refine V_getJ dX11_cast_307 fl_X11_212 (by first | assumption | exact ⟨by decide, rfl⟩) ?_
              refine V_lconst (v := 0) dX11_cast_310 rfl (V_lcmp dX11_cast_311 ?_)
              refine V_if_le_t (tgt := 319) dX11_cast_312 (by decide) (by rw [u2e]; exact hcmp.mpr hLn) ?_
              refine V_iconst (v := 0) dX11_cast_319 (by decide) ?_
              refine V_ireturn dX11_cast_320 rfl rfl rfl (by decide) (by decide) ?_
              refine hlc false ?_
              cases hm : metB K off cut
              · rfl
              · exact absurd hLn (hmet.mp hm)
            · refine V_iload dX11_cast_63 rfl ?_
              refine V_if_lt_t (tgt := 306) dX11_cast_65 (by decide) (by decide) ?_
              refine V_aload_n dX11_cast_306 rfl rfl ?_
              refine V_getJ dX11_cast_307 fl_X11_212 (by first | assumption | exact ⟨by decide, rfl⟩) ?_
              refine V_lconst (v := 0) dX11_cast_310 rfl (V_lcmp dX11_cast_311 ?_)
              refine V_if_le_f (tgt := 319) dX11_cast_312 (by decide) (by rw [u2e]; exact fun z => hLn (hcmp.mp z)) ?_
              refine V_iconst (v := 1) dX11_cast_315 (by decide) (V_goto (tgt := 320) dX11_cast_316 (by decide) ?_)
              refine V_ireturn dX11_cast_320 rfl rfl rfl (by decide) (by decide) ?_
              exact hlc true (hmet.mpr hLn)
        · intro k hk ih I2 f2 h31 h97 h95
          refine V_iload dX11_cast_38 rfl (V_bipush (v := 8) dX11_cast_40 (by decide) ?_)
          refine V_icmp_ge_f (tgt := 60) dX11_cast_42 (by decide) (nI_ge (b := 8) hk (by decide)) ?_
          refine V_aload_n dX11_cast_45 rfl rfl ?_
          refine V_getR dX11_cast_46 fl_X11_82 (by first | assumption | exact ⟨by decide, rfl⟩) (by first | assumption | rfl) ?_
          refine V_iload dX11_cast_49 rfl (V_bipush (v := (-4)) dX11_cast_51 (by decide) ?_)
          refine V_ias dX11_cast_53 (by first | assumption | exact ⟨by decide, rfl⟩) (show ix _ k 8 from ⟨rfl, by omega⟩) ?_
          refine V_iinc_4 (w := 1) dX11_cast_54 (by decide) (by decide) rfl (V_goto (tgt := 38) dX11_cast_57 (by decide) ?_)
          rw [nI_1]
          refine ih _ (fun x y w1 w2 w3 w4 => by rw [u2n (by omega)]; exact f2 x y w1 w2 w3 w4) (by rw [u2n (by omega)]; exact h31) (fun p hp => by rw [u2n (by omega)]; exact h97 p hp) (fun j hj => ?_)
          by_cases hjk : j = k
          · rw [hjk, u2e]
          · rw [u2n (by omega)]; exact h95 j (by omega)
      exact key2 0 (Nat.zero_le _) I1 f1 h31 h97 (fun j hj => absurd hj (by omega))
    · intro k hk ih I1 f1 h31 h97
      refine V_iload dX11_cast_14 rfl (V_bipush (v := 10) dX11_cast_16 (by decide) ?_)
      refine V_icmp_ge_f (tgt := 35) dX11_cast_18 (by decide) (nI_ge (b := 10) hk (by decide)) ?_
      refine V_aload_n dX11_cast_21 rfl rfl ?_
      refine V_getR dX11_cast_22 fl_X11_88 (by first | assumption | exact ⟨by decide, rfl⟩) (by first | assumption | rfl) ?_
      refine V_iload dX11_cast_25 rfl (V_iconst (v := 0) dX11_cast_27 (by decide) ?_)
      refine V_ias dX11_cast_28 (by first | assumption | exact ⟨by decide, rfl⟩) (show ix _ k 10 from ⟨rfl, by omega⟩) ?_
      refine V_iinc_4 (w := 1) dX11_cast_29 (by decide) (by decide) rfl (V_goto (tgt := 14) dX11_cast_32 (by decide) ?_)
      rw [nI_1]
      refine ih _ (fun x y w1 w2 w3 w4 => by rw [u2n (by omega)]; exact f1 x y w1 w2 w3 w4) (by rw [u2n (by omega)]; exact h31) (fun p hp => ?_)
      by_cases hpk : p = k
      · rw [hpk, u2e]
      · rw [u2n (by omega)]; exact h97 p (by omega)
  exact key1 0 (Nat.zero_le _) _ hC u2e (fun p hp => absurd hp (by omega))
end
