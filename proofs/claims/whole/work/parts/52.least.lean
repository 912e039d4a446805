/-! The Caster: the casting of the least trouble -/
def adf (a b : Nat) : Nat := if a < b then b - a else a - b
/-- trouble of a part by a player -/
def trb (K : KT) (td : Nat) (sd : Nat → Nat) (p i : Nat) : Nat := (K 6 i - kpt K td sd p i) + (if K 7 i = p + 1 then 0 else 100 + K 0 5 * adf (K 1 p) (K 4 i))
/-- the least trouble of a part among the players below n -/
def lwt (tb : Nat → Nat → Nat) (ok : Nat → Nat → Bool) (i : Nat) : Nat → Nat
  | 0 => 1000000
  | n + 1 => if ok n i = true then (if tb n i < lwt tb ok i n then tb n i else lwt tb ok i n) else lwt tb ok i n
/-- what the r parts from i on can't be below -/
def flo (P : Nat) (tb : Nat → Nat → Nat) (ok : Nat → Nat → Bool) (ct : Nat → Bool) : Nat → Nat → Nat
  | 0, _ => 0
  | r + 1, i => flo P tb ok ct r (i + 1) + (if ct i = true then 0 else lwt tb ok i P)
theorem lwt_le {tb : Nat → Nat → Nat} {ok : Nat → Nat → Bool} {i : Nat} : ∀ (n p : Nat), p < n → ok p i = true → lwt tb ok i n ≤ tb p i
  | 0, p, h, _ => absurd h (by omega)
  | n + 1, p, h, hk => by
    unfold lwt
    by_cases hpn : p = n
    · subst hpn
      rw [if_pos hk]
      split <;> omega
    · have := lwt_le (tb := tb) n p (by omega) hk
      split
      · split <;> omega
      · exact this
theorem lwt_max {tb : Nat → Nat → Nat} {ok : Nat → Nat → Bool} {i : Nat} : ∀ n, lwt tb ok i n ≤ 1000000
  | 0 => Nat.le_refl _
  | n + 1 => by
    have := lwt_max (tb := tb) (ok := ok) (i := i) n
    unfold lwt
    split
    · split <;> omega
    · exact this
theorem flo_max {P : Nat} {tb : Nat → Nat → Nat} {ok : Nat → Nat → Bool} {ct : Nat → Bool} : ∀ r i, flo P tb ok ct r i ≤ r * 1000000
  | 0, _ => Nat.zero_le _
  | r + 1, i => by
    have h1 := flo_max (P := P) (tb := tb) (ok := ok) (ct := ct) r (i + 1)
    have h2 := lwt_max (tb := tb) (ok := ok) (i := i) P
    rw [Nat.succ_mul]
    generalize r * 1000000 = z at h1 ⊢
    show flo P tb ok ct r (i + 1) + (if ct i = true then 0 else lwt tb ok i P) ≤ _
    by_cases hc : ct i = true
    · rw [if_pos hc]; omega
    · rw [if_neg hc]; omega
theorem flo_le {P : Nat} {tb : Nat → Nat → Nat} {ok : Nat → Nat → Bool} {ct : Nat → Bool} {cm : Nat → Nat} : ∀ (r i : Nat) (tk : Nat → Nat) (l : List Nat), l ∈ CL P ok ct cm r i tk → flo P tb ok ct r i ≤ TS tb i l
  | 0, i, tk, l, h => Nat.zero_le _
  | r + 1, i, tk, l, h => by
    rw [CL] at h
    unfold flo
    by_cases hc : ct i = true
    · rw [if_pos hc] at h
      obtain ⟨x, hx, rfl⟩ := List.mem_map.mp h
      have := flo_le (tb := tb) r (i + 1) tk x hx
      rw [if_pos hc]
      show _ ≤ (if (0 : Nat) = 0 then 0 else _) + TS tb (i + 1) x
      rw [if_pos rfl]; omega
    · rw [if_neg hc] at h
      rw [if_neg hc]
      obtain ⟨p, hp, hx⟩ := List.mem_flatMap.mp h
      by_cases hf : fre ok cm tk p i = true
      · rw [if_pos hf] at hx
        obtain ⟨x, hx2, rfl⟩ := List.mem_map.mp hx
        have h1 := flo_le (tb := tb) r (i + 1) _ x hx2
        have h2 := lwt_le (tb := tb) (ok := ok) (i := i) P p (List.mem_range.mp hp) (by unfold fre at hf; simp at hf; exact hf.1)
        show _ ≤ (if p + 1 = 0 then 0 else tb (p + 1 - 1) i) + TS tb (i + 1) x
        rw [if_neg (by omega), Nat.add_sub_cancel]; omega
      · rw [if_neg hf] at hx; cases hx
theorem trb_le {K : KT} (hB : KB K) {td : Nat} {sd : Nat → Nat} {p i : Nat} (hp : p < K 0 0) (hi : i < K 0 1) : trb K td sd p i ≤ 1990 := by
  have h1 := (hB.2.2.2.1 i hi).2.2.2.1
  have h2 := (hB.2.1 p hp).1
  have h3 := (hB.2.2.2.1 i hi).1
  have h4 : K 0 5 ≤ 9 := hB.1.2.2.2.2.2.1
  have h5 : adf (K 1 p) (K 4 i) ≤ 99 := by unfold adf; split <;> omega
  have h6 : K 0 5 * adf (K 1 p) (K 4 i) ≤ 9 * 99 := Nat.mul_le_mul h4 h5
  unfold trb
  split <;> omega
/-- what the search stands on, besides: the least troubles from a part on, the troubles -/
def CaW (I : TI) (K : KT) (off cut td : Nat) (sd : Nat → Nat) : Prop :=
  (∀ r i, i + r = K 0 1 → I 46 i = nI (flo (K 0 0) (trb K td sd) (okf K off) (ctf cut) r i)) ∧ (∀ p i, p < K 0 0 → i < K 0 1 → ctf cut i = false → okf K off p i = true → I 45 (8 * p + i) = nI (trb K td sd p i))
section
variable {E : En} {I : TI} {J : TJ} {co dr : Nat} {a1 a2 : Option Nat} {Post : PT} {e : Nat} {K : KT} {off cut : Nat} {td : Nat} {sd : Nat → Nat} {ow : Nat → Int32}
theorem sp_improveFrom (he : e = 4 ∨ e = 18) (hB : KB K) (hcut : cut < 2 ^ 31) : ∀ (r d i sf bt : Nat) (tk : Nat → Nat) (pre bs : List Nat) (I : TI) (Post : PT), 3 + r ≤ d → i + r = K 0 1 → pre.length = i → sf ≤ 2000 * i → bt ≤ 1000000 → CaI I e K off cut → CaW I K off cut td sd → (∀ p, p < 10 → I 43 p = nI (tk p)) → (∀ p, tk p < 2 ^ i) → (∀ j, j < i → I 44 j = owv (pre.getD j 0)) → I 42 8 = nI bt → (bt < 1000000 → ∀ j, j < K 0 1 → I 47 j = owv (bs.getD j 0)) →
    (∀ I', (∀ a b, a ≠ 42 → a ≠ 44 → a ≠ 47 → I' a b = I a b) → (∀ b, b ≠ 8 → I' 42 b = I 42 b) → (∀ j, j < i → I' 44 j = I 44 j) → I' 42 8 = nI (bst (trb K td sd) i sf pre (CL (K 0 0) (okf K off) (ctf cut) (clashM K) r i tk) (bt, bs)).1 → ((bst (trb K td sd) i sf pre (CL (K 0 0) (okf K off) (ctf cut) (clashM K) r i tk) (bt, bs)).1 < 1000000 → ∀ j, j < K 0 1 → I' 47 j = owv ((bst (trb K td sd) i sf pre (CL (K 0 0) (okf K off) (ctf cut) (clashM K) r i tk) (bt, bs)).2.getD j 0)) → Post none NC I' J (RR co dr (some e) a1 a2)) →
    Cal E d M_X2_improveFrom [.ref 42, .int (nI i), .int (nI sf)] NC I J (RR co dr (some e) a1 a2) Post := by
  have hP := hB.1.1
  have hQ := hB.1.2.1
  obtain ⟨_, _, _, _, _, _, _, _, _, _, _, _, _, _, _, _, _, _, _, _, _, _, _⟩ := f_co (co := co) (dr := dr) (cc := some e) (a1 := a1) (a2 := a2) he
  intro r
  induction r with
  | zero =>
    intro d i sf bt tk pre bs I Post hd hi hpre hsf hbt hC hW htk hlt hch hb8 hbest Kk
    have hfl := hW.1 0 i hi
    have hfl : I 46 i = nI 0 := hfl
    refine Cal_of kn_X2_improveFrom rfl (Nat.le_of_ble_eq_true rfl) ?_
    by_cases hprune : bt ≤ sf
    · refine V_iload_n dX2_improveFrom_0 rfl rfl (V_aload_n dX2_improveFrom_1 rfl rfl ?_)
      refine V_getR dX2_improveFrom_2 fl_X2_21 (by first | assumption | exact ⟨by decide, rfl⟩) (by first | assumption | rfl) ?_
      refine V_iload_n dX2_improveFrom_5 rfl rfl ?_
      refine V_ial dX2_improveFrom_6 (by first | assumption | exact ⟨by decide, rfl⟩) ⟨rfl, by omega⟩ ?_
      refine V_iadd dX2_improveFrom_7 (V_aload_n dX2_improveFrom_8 rfl rfl ?_)
      refine V_getI dX2_improveFrom_9 fl_X2_74 (by first | assumption | exact ⟨by decide, rfl⟩) ?_
      refine V_icmp_lt_f (tgt := 16) dX2_improveFrom_12 (by decide) (by rw [hfl, nI_add, hb8, lit_lt (by omega) (by omega)]; omega) ?_
      refine V_return dX2_improveFrom_15 rfl rfl (by decide) (by decide) ?_
      have e9 : bst (trb K td sd) i sf pre (CL (K 0 0) (okf K off) (ctf cut) (clashM K) 0 i tk) (bt, bs) = (bt, bs) := bst_none _ _ _ _ _ _ (fun l hl => by show bt ≤ _; omega)
      rw [e9] at Kk
      exact Kk I (fun _ _ _ _ _ => rfl) (fun _ _ => rfl) (fun _ _ => rfl) hb8 hbest
    · refine V_iload_n dX2_improveFrom_0 rfl rfl (V_aload_n dX2_improveFrom_1 rfl rfl ?_)
      refine V_getR dX2_improveFrom_2 fl_X2_21 (by first | assumption | exact ⟨by decide, rfl⟩) (by first | assumption | rfl) ?_
      refine V_iload_n dX2_improveFrom_5 rfl rfl ?_
      refine V_ial dX2_improveFrom_6 (by first | assumption | exact ⟨by decide, rfl⟩) ⟨rfl, by omega⟩ ?_
      refine V_iadd dX2_improveFrom_7 (V_aload_n dX2_improveFrom_8 rfl rfl ?_)
      refine V_getI dX2_improveFrom_9 fl_X2_74 (by first | assumption | exact ⟨by decide, rfl⟩) ?_
      refine V_icmp_lt_t (tgt := 16) dX2_improveFrom_12 (by decide) (by rw [hfl, nI_add, hb8, lit_lt (by omega) (by omega)]; omega) ?_
      refine V_iload_n dX2_improveFrom_16 rfl rfl (V_aload_n dX2_improveFrom_17 rfl rfl ?_)
      refine V_getR dX2_improveFrom_18 fl_X2_27 (by first | assumption | exact ⟨by decide, rfl⟩) (by first | assumption | rfl) ?_
      refine V_getI dX2_improveFrom_21 fl_X2_64 (by first | assumption | exact ⟨by decide, rfl⟩) ?_
      refine V_icmp_lt_f (tgt := 48) dX2_improveFrom_24 (by decide) (by rw [hC.1.1.2.1, lit_lt (by omega) (by omega)]; omega) ?_
      refine V_aload_n dX2_improveFrom_27 rfl rfl (V_iload_n dX2_improveFrom_28 rfl rfl ?_)
      refine V_putI dX2_improveFrom_29 fl_X2_74 (by first | assumption | exact ⟨by decide, rfl⟩) ?_
      refine V_aload_n dX2_improveFrom_32 rfl rfl ?_
      refine V_getR dX2_improveFrom_33 fl_X2_15 (by first | assumption | exact ⟨by decide, rfl⟩) (by first | assumption | rfl) ?_
      refine V_iconst (v := 0) dX2_improveFrom_36 (by decide) (V_aload_n dX2_improveFrom_37 rfl rfl ?_)
      refine V_getR dX2_improveFrom_38 fl_X2_24 (by first | assumption | exact ⟨by decide, rfl⟩) (by first | assumption | rfl) ?_
      refine V_iconst (v := 0) dX2_improveFrom_41 (by decide) (V_bipush (v := 8) dX2_improveFrom_42 (by decide) ?_)
      refine V_copy dX2_improveFrom_44 ml_X2_113 (by first | assumption | exact ⟨by decide, rfl⟩) (by first | assumption | exact ⟨by decide, rfl⟩) (by decide) (by decide) (by decide) (by decide) (by decide) (by first | decide | omega) (by decide) ?_
      refine V_return dX2_improveFrom_47 rfl rfl (by decide) (by decide) ?_
      have e9 : bst (trb K td sd) i sf pre (CL (K 0 0) (okf K off) (ctf cut) (clashM K) 0 i tk) (bt, bs) = (sf, pre) := by
        show (if sf + 0 < bt then (sf + 0, pre ++ []) else (bt, bs)) = _
        rw [if_pos (by omega)]; simp
      rw [e9] at Kk
      have e80 : (8 : Int32).toNatClampNeg = 8 := by decide
      have e0 : (0 : Int32).toNatClampNeg = 0 := by decide
      refine Kk _ (fun a b g1 g2 g3 => ?_) (fun b g1 => ?_) (fun j hj => ?_) ?_ (fun _ j hj => ?_)
      · simp [cpy2, up2, g1, g3]
      · simp [cpy2, up2, g1]
      · simp [cpy2, up2]
      · simp [cpy2, up2]
      · have hj8 : j < 8 := by omega
        simp [cpy2, up2, va_cpy, e80, e0, hj8]
        simpa using hch j (by omega)
  | succ r ih =>
    intro d i sf bt tk pre bs I Post hd hi hpre hsf hbt hC hW htk hlt hch hb8 hbest Kk
    have hfl := hW.1 (r + 1) i hi
    have hfm := flo_max (P := K 0 0) (tb := trb K td sd) (ok := okf K off) (ct := ctf cut) (r + 1) i
    have hr8 : (r + 1) * 1000000 ≤ 8 * 1000000 := Nat.mul_le_mul_right _ (by omega)
    have hi7 : i ≤ 7 := by omega
    refine Cal_of kn_X2_improveFrom rfl (Nat.le_of_ble_eq_true rfl) ?_
    by_cases hprune : bt ≤ sf + flo (K 0 0) (trb K td sd) (okf K off) (ctf cut) (r + 1) i
    · refine V_iload_n dX2_improveFrom_0 rfl rfl (V_aload_n dX2_improveFrom_1 rfl rfl ?_)
      refine V_getR dX2_improveFrom_2 fl_X2_21 (by first | assumption | exact ⟨by decide, rfl⟩) (by first | assumption | rfl) ?_
      refine V_iload_n dX2_improveFrom_5 rfl rfl ?_
      refine V_ial dX2_improveFrom_6 (by first | assumption | exact ⟨by decide, rfl⟩) ⟨rfl, by omega⟩ ?_
      refine V_iadd dX2_improveFrom_7 (V_aload_n dX2_improveFrom_8 rfl rfl ?_)
      refine V_getI dX2_improveFrom_9 fl_X2_74 (by first | assumption | exact ⟨by decide, rfl⟩) ?_
      refine V_icmp_lt_f (tgt := 16) dX2_improveFrom_12 (by decide) (by rw [hfl, nI_add, hb8, lit_lt (by omega) (by omega)]; omega) ?_
      refine V_return dX2_improveFrom_15 rfl rfl (by decide) (by decide) ?_
      have e9 : bst (trb K td sd) i sf pre (CL (K 0 0) (okf K off) (ctf cut) (clashM K) (r + 1) i tk) (bt, bs) = (bt, bs) := bst_none _ _ _ _ _ _ (fun l hl => by
        have := flo_le (tb := trb K td sd) (r + 1) i tk l hl
        show bt ≤ _
        omega)
      rw [e9] at Kk
      exact Kk I (fun _ _ _ _ _ => rfl) (fun _ _ => rfl) (fun _ _ => rfl) hb8 hbest
    · refine V_iload_n dX2_improveFrom_0 rfl rfl (V_aload_n dX2_improveFrom_1 rfl rfl ?_)
      refine V_getR dX2_improveFrom_2 fl_X2_21 (by first | assumption | exact ⟨by decide, rfl⟩) (by first | assumption | rfl) ?_
      refine V_iload_n dX2_improveFrom_5 rfl rfl ?_
      refine V_ial dX2_improveFrom_6 (by first | assumption | exact ⟨by decide, rfl⟩) ⟨rfl, by omega⟩ ?_
      refine V_iadd dX2_improveFrom_7 (V_aload_n dX2_improveFrom_8 rfl rfl ?_)
      refine V_getI dX2_improveFrom_9 fl_X2_74 (by first | assumption | exact ⟨by decide, rfl⟩) ?_
      refine V_icmp_lt_t (tgt := 16) dX2_improveFrom_12 (by decide) (by rw [hfl, nI_add, hb8, lit_lt (by omega) (by omega)]; omega) ?_
      refine V_iload_n dX2_improveFrom_16 rfl rfl (V_aload_n dX2_improveFrom_17 rfl rfl ?_)
      refine V_getR dX2_improveFrom_18 fl_X2_27 (by first | assumption | exact ⟨by decide, rfl⟩) (by first | assumption | rfl) ?_
      refine V_getI dX2_improveFrom_21 fl_X2_64 (by first | assumption | exact ⟨by decide, rfl⟩) ?_
      refine V_icmp_lt_t (tgt := 48) dX2_improveFrom_24 (by decide) (by rw [hC.1.1.2.1, lit_lt (by omega) (by omega)]; omega) ?_
      refine V_aload_n dX2_improveFrom_48 rfl rfl ?_
      refine V_getI dX2_improveFrom_49 fl_X2_35 (by first | assumption | exact ⟨by decide, rfl⟩) ?_
      refine V_iload_n dX2_improveFrom_52 rfl rfl ?_
      refine V_cS2i (M' := M_X10_has) (d' := 1) dX2_improveFrom_53 (Or.inr ⟨_, ml_X2_49⟩) kb_X10_has (by first | decide | omega) (by simp [Value.category]) ⟨by decide, by decide⟩ ?_
      rw [hC.2.2.2]
      refine sp_has hcut (by omega) ⟨_, rfl, ?_⟩
      cases hct : cut.testBit i
      · have hct' : ctf cut i = false := hct
        rw [CL_all hct'] at Kk
        refine V_if_eq_t (tgt := 76) dX2_improveFrom_56 (by decide) (rfl) ?_
        refine V_iconst (v := 0) dX2_improveFrom_76 (by decide) (V_istore_3 dX2_improveFrom_77 (by decide) rfl ?_)
        -- the loop over the players: what has been looked at lies in (bt1, bs1)
        have key : ∀ q, q ≤ K 0 0 → ∀ (bt1 : Nat) (bs1 : List Nat) (I1 : TI), bt1 ≤ 1000000 → (∀ a b, a ≠ 42 → a ≠ 44 → a ≠ 47 → I1 a b = I a b) → (∀ b, b ≠ 8 → I1 42 b = I 42 b) → (∀ j, j < i → I1 44 j = I 44 j) → I1 42 8 = nI bt1 → (bt1 < 1000000 → ∀ j, j < K 0 1 → I1 47 j = owv (bs1.getD j 0)) → bst (trb K td sd) i sf pre (CLp (K 0 0) (okf K off) (ctf cut) (clashM K) r i tk q) (bt1, bs1) = bst (trb K td sd) i sf pre (CLp (K 0 0) (okf K off) (ctf cut) (clashM K) r i tk 0) (bt, bs) → V E d M_X2_improveFrom Post 78 [some (.ref 42), some (.int (nI i)), some (.int (nI sf)), some (.int (nI q))] [] NC 0 0 I1 J (RR co dr (some e) a1 a2) := by
          refine loop_up _ ?_ ?_
          · intro bt1 bs1 I1 hbt1 g1 g2 g3 g4 g5 g6
            have hC1 : CaI I1 e K off cut := hC.of (fun a b q1 q2 => g1 a b (by omega) (by omega) (by omega)) (g2 1 (by decide)) (g2 2 (by decide))
            rw [CLp_end (Nat.le_refl _)] at g6
            have g6 : (bt1, bs1) = _ := g6
            refine V_iload_n dX2_improveFrom_78 rfl rfl (V_aload_n dX2_improveFrom_79 rfl rfl ?_)
            refine V_getR dX2_improveFrom_80 fl_X2_27 (by first | assumption | exact ⟨by decide, rfl⟩) (by first | assumption | rfl) ?_
            refine V_getI dX2_improveFrom_83 fl_X2_67 (by first | assumption | exact ⟨by decide, rfl⟩) ?_
            refine V_icmp_ge_t (tgt := 157) dX2_improveFrom_86 (by decide) (by rw [hC1.1.1.1]; exact nI_le (Nat.le_refl _) (by omega)) ?_
            refine V_return dX2_improveFrom_157 rfl rfl (by decide) (by decide) ?_
            rw [← g6] at Kk
            exact Kk I1 g1 g2 g3 g4 g5
          · intro q hq ihq bt1 bs1 I1 hbt1 g1 g2 g3 g4 g5 g6
            have hC1 : CaI I1 e K off cut := hC.of (fun a b q1 q2 => g1 a b (by omega) (by omega) (by omega)) (g2 1 (by decide)) (g2 2 (by decide))
            have htk1 : ∀ p, p < 10 → I1 43 p = nI (tk p) := fun p hp => by rw [g1 43 p (by decide) (by decide) (by decide)]; exact htk p hp
            refine V_iload_n dX2_improveFrom_78 rfl rfl (V_aload_n dX2_improveFrom_79 rfl rfl ?_)
            refine V_getR dX2_improveFrom_80 fl_X2_27 (by first | assumption | exact ⟨by decide, rfl⟩) (by first | assumption | rfl) ?_
            refine V_getI dX2_improveFrom_83 fl_X2_67 (by first | assumption | exact ⟨by decide, rfl⟩) ?_
            refine V_icmp_ge_f (tgt := 157) dX2_improveFrom_86 (by decide) (by rw [hC1.1.1.1]; exact nI_ge hq (by omega)) ?_
            refine V_aload_n dX2_improveFrom_89 rfl rfl (V_iload_n dX2_improveFrom_90 rfl rfl (V_iload_n dX2_improveFrom_91 rfl rfl ?_))
            refine V_cV2i (M' := M_X2_isFree) (d' := 2) dX2_improveFrom_92 (Or.inl ml_X2_70) kb_X2_isFree (by first | assumption | exact ⟨by decide, rfl⟩) (by first | decide | omega) (by simp [Value.category]) ⟨by decide, by decide⟩ ?_
            refine sp_isFree (by decide) he hB hC1 hq (by omega) (htk1 q (by omega)) ⟨_, rfl, ?_⟩
            cases hf : fre (okf K off) (clashM K) tk q i
            · rw [CLp_not hq hf] at g6
              refine V_if_eq_t (tgt := 151) dX2_improveFrom_95 (by decide) (rfl) ?_
              refine V_iinc_3 (w := 1) dX2_improveFrom_151 (by decide) (by decide) rfl (V_goto (tgt := 78) dX2_improveFrom_154 (by decide) ?_)
              rw [nI_1]
              exact ihq bt1 bs1 I1 hbt1 g1 g2 g3 g4 g5 g6
            · rw [CLp_free hq hf, bst_app, bst_map, if_neg (by omega), Nat.add_sub_cancel] at g6
              have hok : okf K off q i = true := by unfold fre at hf; simp at hf; exact hf.1
              have htb := hW.2 q i hq (by omega) hct' hok
              have htl := trb_le hB (td := td) (sd := sd) hq (show i < K 0 1 by omega)
              refine V_if_eq_f (tgt := 151) dX2_improveFrom_95 (by decide) (by decide) ?_
              refine V_aload_n dX2_improveFrom_98 rfl rfl ?_
              refine V_getR dX2_improveFrom_99 fl_X2_9 (by first | assumption | exact ⟨by decide, rfl⟩) (by first | assumption | rfl) ?_
              refine V_iload_n dX2_improveFrom_102 rfl rfl (V_dup2 dX2_improveFrom_103 rfl rfl ?_)
              refine V_ial dX2_improveFrom_104 (by first | assumption | exact ⟨by decide, rfl⟩) ⟨rfl, by omega⟩ ?_
              refine V_iconst (v := 1) dX2_improveFrom_105 (by decide) (V_iload_n dX2_improveFrom_106 rfl rfl (V_ishl dX2_improveFrom_107 (V_ior dX2_improveFrom_108 ?_)))
              refine V_ias dX2_improveFrom_109 (by first | assumption | exact ⟨by decide, rfl⟩) ⟨rfl, by omega⟩ ?_
              refine V_aload_n dX2_improveFrom_110 rfl rfl ?_
              refine V_getR dX2_improveFrom_111 fl_X2_15 (by first | assumption | exact ⟨by decide, rfl⟩) (by first | assumption | rfl) ?_
              refine V_iload_n dX2_improveFrom_114 rfl rfl (V_iload_n dX2_improveFrom_115 rfl rfl ?_)
              refine V_ias dX2_improveFrom_116 (by first | assumption | exact ⟨by decide, rfl⟩) ⟨rfl, by omega⟩ ?_
              refine V_aload_n dX2_improveFrom_117 rfl rfl (V_iload_n dX2_improveFrom_118 rfl rfl (V_iconst (v := 1) dX2_improveFrom_119 (by decide) (V_iadd dX2_improveFrom_120 (V_iload_n dX2_improveFrom_121 rfl rfl (V_aload_n dX2_improveFrom_122 rfl rfl ?_)))))
              refine V_getR dX2_improveFrom_123 fl_X2_18 (by first | assumption | exact ⟨by decide, rfl⟩) (by first | assumption | rfl) ?_
              refine V_iload_n dX2_improveFrom_126 rfl rfl (V_bipush (v := 8) dX2_improveFrom_127 (by decide) (V_imul dX2_improveFrom_129 (V_iload_n dX2_improveFrom_130 rfl rfl (V_iadd dX2_improveFrom_131 ?_))))
              refine V_ial dX2_improveFrom_132 (by first | assumption | exact ⟨by decide, rfl⟩) (show ix _ (8 * q + i) 80 from ⟨(by rw [show (8 : Int32) = nI 8 from rfl, pk_mul, nI_add, Nat.mul_comm]), by omega⟩) ?_
              refine V_iadd dX2_improveFrom_133 ?_
              refine V_cS3v (M' := M_X2_improveFrom) (d' := (d-1)) dX2_improveFrom_134 (Or.inl ml_X2_81) kb_X2_improveFrom (by first | decide | omega) (by simp [Value.category]) ⟨by decide, by decide⟩ ?_
              have hor : ∀ p, tset tk q i p < 2 ^ (i + 1) := fun p => by
                have h1 := hlt p
                have h2 : 2 ^ i ≤ 2 ^ (i + 1) := Nat.pow_le_pow_right (by decide) (by omega)
                unfold tset
                split
                · exact Nat.or_lt_two_pow (by omega) (Nat.pow_lt_pow_right (by decide) (by omega))
                · omega
              rw [htk1 q (by omega), shl1 (by omega), or_nI, nI_1, u2n (show 45 ≠ 44 ∨ 8 * q + i ≠ i by omega), u2n (show 45 ≠ 43 ∨ 8 * q + i ≠ q by omega), g1 45 _ (by decide) (by decide) (by decide), htb, nI_add]
              refine ih (d - 1) (i + 1) (sf + trb K td sd q i) bt1 (tset tk q i) (pre ++ [q + 1]) bs1 _ _ (by omega) (by omega) (by simp [hpre]) (by omega) hbt1 ((hC1.up he (by decide)).up he (by decide)) ⟨fun r' i' hr' => ?_, fun p' i' w1 w2 w3 w4 => ?_⟩ (fun p hp => ?_) hor (fun j hj => ?_) ?_ (fun hlt1 j hj => ?_) (fun I2 w1 w2 w3 w4 w5 => ⟨rfl, ?_⟩)
              · rw [u2n (by omega), u2n (by omega), g1 46 _ (by decide) (by decide) (by decide)]; exact hW.1 r' i' hr'
              · rw [u2n (by omega), u2n (by omega), g1 45 _ (by decide) (by decide) (by decide)]; exact hW.2 p' i' w1 w2 w3 w4
              · rw [u2n (Or.inl (by decide))]
                unfold tset
                by_cases hpq : p = q
                · subst hpq; rw [u2e, if_pos rfl]
                · rw [u2n (Or.inr hpq), if_neg hpq]; exact htk1 p hp
              · by_cases hji : j = i
                · subst hji
                  rw [u2e, List.getD_eq_getElem?_getD, List.getElem?_append_right (by omega), hpre]
                  simp [owv]
                · rw [u2n (Or.inr hji), u2n (Or.inl (by decide)), g3 j (by omega), hch j (by omega), List.getD_eq_getElem?_getD, List.getD_eq_getElem?_getD, List.getElem?_append_left (by omega)]
              · rw [u2n (Or.inl (by decide)), u2n (Or.inl (by decide))]; exact g4
              · rw [u2n (Or.inl (by decide)), u2n (Or.inl (by decide))]; exact g5 hlt1 j hj
              · have e43 : I2 43 q = nI (tk q ||| 2 ^ i) := by rw [w1 43 q (by decide) (by decide) (by decide), u2n (Or.inl (by decide)), u2e]
                refine V_aload_n dX2_improveFrom_137 rfl rfl ?_
                refine V_getR dX2_improveFrom_138 fl_X2_9 (by first | assumption | exact ⟨by decide, rfl⟩) (by first | assumption | rfl) ?_
                refine V_iload_n dX2_improveFrom_141 rfl rfl (V_dup2 dX2_improveFrom_142 rfl rfl ?_)
                refine V_ial dX2_improveFrom_143 (by first | assumption | exact ⟨by decide, rfl⟩) ⟨rfl, by omega⟩ ?_
                refine V_iconst (v := 1) dX2_improveFrom_144 (by decide) (V_iload_n dX2_improveFrom_145 rfl rfl (V_ishl dX2_improveFrom_146 (V_iconst (v := (-1)) dX2_improveFrom_147 (by decide) (V_ixor dX2_improveFrom_148 (V_iand dX2_improveFrom_149 ?_)))))
                refine V_ias dX2_improveFrom_150 (by first | assumption | exact ⟨by decide, rfl⟩) ⟨rfl, by omega⟩ ?_
                refine V_iinc_3 (w := 1) dX2_improveFrom_151 (by decide) (by decide) rfl (V_goto (tgt := 78) dX2_improveFrom_154 (by decide) ?_)
                rw [e43, shl1 (by omega), andn_nI, or_andn (hlt q), nI_1]
                have hle := (bst_le (trb K td sd) (i + 1) (sf + trb K td sd q i) (pre ++ [q + 1]) (CL (K 0 0) (okf K off) (ctf cut) (clashM K) r (i + 1) (tset tk q i)) (bt1, bs1)).1
                refine ihq _ _ _ (Nat.le_trans hle hbt1) (fun a b m1 m2 m3 => ?_) (fun b m1 => ?_) (fun j hj => ?_) ?_ (fun hl2 j hj => ?_) g6
                · by_cases ha : a = 43
                  · subst ha
                    by_cases hbq : b = q
                    · subst hbq; rw [u2e, htk b (by omega)]
                    · rw [u2n (Or.inr hbq), w1 43 b (by decide) (by decide) (by decide), u2n (Or.inl (by decide)), u2n (Or.inr hbq)]; exact g1 43 b (by decide) (by decide) (by decide)
                  · rw [u2n (Or.inl ha), w1 a b m1 m2 m3, u2n (Or.inl m2), u2n (Or.inl ha)]; exact g1 a b m1 m2 m3
                · rw [u2n (Or.inl (by decide)), w2 b m1, u2n (Or.inl (by decide)), u2n (Or.inl (by decide))]; exact g2 b m1
                · rw [u2n (Or.inl (by decide)), w3 j (by omega), u2n (Or.inr (by omega)), u2n (Or.inl (by decide))]; exact g3 j hj
                · rw [u2n (Or.inl (by decide))]; exact w4
                · rw [u2n (Or.inl (by decide))]; exact w5 hl2 j hj
        exact key 0 (Nat.zero_le _) bt bs I hbt (fun _ _ _ _ _ => rfl) (fun _ _ => rfl) (fun _ _ => rfl) hb8 hbest rfl
      · have hct' : ctf cut i = true := hct
        rw [CL_cut hct', bst_map, if_pos rfl, Nat.add_zero] at Kk
        refine V_if_eq_f (tgt := 76) dX2_improveFrom_56 (by decide) (by decide) ?_
        refine V_aload_n dX2_improveFrom_59 rfl rfl ?_
        refine V_getR dX2_improveFrom_60 fl_X2_15 (by first | assumption | exact ⟨by decide, rfl⟩) (by first | assumption | rfl) ?_
        refine V_iload_n dX2_improveFrom_63 rfl rfl (V_bipush (v := (-4)) dX2_improveFrom_64 (by decide) ?_)
        refine V_ias dX2_improveFrom_66 (by first | assumption | exact ⟨by decide, rfl⟩) ⟨rfl, by omega⟩ ?_
        refine V_aload_n dX2_improveFrom_67 rfl rfl (V_iload_n dX2_improveFrom_68 rfl rfl (V_iconst (v := 1) dX2_improveFrom_69 (by decide) (V_iadd dX2_improveFrom_70 (V_iload_n dX2_improveFrom_71 rfl rfl ?_))))
        refine V_cS3v (M' := M_X2_improveFrom) (d' := (d-1)) dX2_improveFrom_72 (Or.inl ml_X2_81) kb_X2_improveFrom (by first | decide | omega) (by simp [Value.category]) ⟨by decide, by decide⟩ ?_
        rw [nI_1]
        refine ih (d - 1) (i + 1) sf bt tk (pre ++ [0]) bs _ _ (by omega) (by omega) (by simp [hpre]) (by omega) hbt (hC.up he (by decide)) ⟨fun r' i' hr' => ?_, fun p' i' w1 w2 w3 w4 => ?_⟩ (fun p hp => ?_) (fun p => Nat.lt_of_lt_of_le (hlt p) (Nat.pow_le_pow_right (by decide) (by omega))) (fun j hj => ?_) ?_ (fun hlt1 j hj => ?_) (fun I2 w1 w2 w3 w4 w5 => ⟨rfl, ?_⟩)
        · rw [u2n (Or.inl (by decide))]; exact hW.1 r' i' hr'
        · rw [u2n (Or.inl (by decide))]; exact hW.2 p' i' w1 w2 w3 w4
        · rw [u2n (Or.inl (by decide))]; exact htk p hp
        · by_cases hji : j = i
          · subst hji
            rw [u2e, List.getD_eq_getElem?_getD, List.getElem?_append_right (by omega), hpre]
            simp [owv]
          · rw [u2n (Or.inr hji), hch j (by omega), List.getD_eq_getElem?_getD, List.getD_eq_getElem?_getD, List.getElem?_append_left (by omega)]
        · rw [u2n (Or.inl (by decide))]; exact hb8
        · rw [u2n (Or.inl (by decide))]; exact hbest hlt1 j hj
        · refine V_return dX2_improveFrom_75 rfl rfl (by decide) (by decide) ?_
          refine Kk I2 (fun a b m1 m2 m3 => ?_) (fun b m1 => ?_) (fun j hj => ?_) w4 w5
          · rw [w1 a b m1 m2 m3, u2n (Or.inl m2)]
          · rw [w2 b m1, u2n (Or.inl (by decide))]
          · rw [w3 j (by omega), u2n (Or.inr (by omega))]
end
