/-! The sickness: a state divided -/
def REP (I : TI) (n : Nat) (f : Nat → Nat) : Prop := ∃ bs : Nat → Nat, (∀ b, b < n → I 62 b = nI (bs b) ∧ I 63 b = nI (f (bs b)) ∧ 0 < f (bs b)) ∧ (∀ b b', b < n → b' < n → bs b = bs b' → b = b') ∧ (∀ c, 0 < f c → ∃ b, b < n ∧ bs b = c)
theorem or_pow_tb (s p i : Nat) : (s ||| 2 ^ p).testBit i = (s.testBit i || decide (i = p)) := fb_bit_set s p i
theorem or_xor {s p : Nat} (h : s.testBit p = false) : (s ||| 2 ^ p) ^^^ 2 ^ p = s := tb_ext (fun i => by
  rw [xor_tb, or_pow_tb]
  by_cases e : i = p
  · subst e; simp [h]
  · simp [e])
theorem xor_or {c p : Nat} (h : c.testBit p = true) : (c ^^^ 2 ^ p) ||| 2 ^ p = c := tb_ext (fun i => by
  rw [or_pow_tb, xor_tb]
  by_cases e : i = p
  · subst e; simp [h]
  · simp [e])
theorem sty_nI {x w : Nat} (hx : x ≤ 1000000) (hw : w ≤ 1000000) : ((nI x).toInt64 * (nI w).toInt64 / 1000000).toInt32 = nI (sty w x) := by
  have h : x * w ≤ 1000000 * 1000000 := Nat.mul_le_mul hx hw
  rw [nI_l (by omega), nI_l (by omega), lN_mul, show (1000000 : Int64) = lN 1000000 from rfl, pk_lDiv (by omega) (by omega) (by omega), lN_i]
  rfl
section
variable {E : En} {I : TI} {J : TJ} {R : TR} {co dr : Nat} {cc a1 a2 : Option Nat} {Post : PT} {e : Nat} {K : KT}
theorem dvd1_lo {w p : Nat} {f : Nat → Nat} {c : Nat} (h : c.testBit p = false) : dvd1 w p f c = sty w (f c) := by unfold dvd1; rw [h]; rfl
theorem dvd1_hi {w p : Nat} {f : Nat → Nat} {c : Nat} (h : c.testBit p = false) : dvd1 w p f (c ||| 2 ^ p) = f c - sty w (f c) := by
  unfold dvd1
  rw [show (c ||| 2 ^ p).testBit p = true by rw [or_pow_tb]; simp, or_xor h]; rfl
theorem sp_divide {d n p w : Nat} {f : Nat → Nat} (hr : REP I n f) (hn : I 59 4 = nI n) (hn2 : 2 * n ≤ 1024) (hp : p < 10) (hw : w ≤ 1000000) (hf : ∀ c, 0 < f c → c.testBit p = false) (hfl : ∀ c, f c ≤ 1000000) (Kk : ∀ I' n', (∀ x y, (x ≠ 59 ∨ y ≠ 4) → x ≠ 62 → x ≠ 63 → I' x y = I x y) → n' ≤ 2 * n → I' 59 4 = nI n' → REP I' n' (dvd1 w p f) → Post none NC I' J (RR co dr cc a1 a2)) : Cal E d M_X7_divide [.ref 59, .int (nI p), .int (nI w)] NC I J (RR co dr cc a1 a2) Post := by
  obtain ⟨bs, r1, r2, r3⟩ := hr
  have nob : ∀ b, b < n → (bs b).testBit p = false := fun b hb => hf _ (r1 b hb).2.2
  have ne1 : ∀ b b', b < n → b' < n → bs b ≠ bs b' ||| 2 ^ p := fun b b' hb hb' z => by
    have := congrArg (fun x => x.testBit p) z
    simp only [or_pow_tb] at this
    rw [nob b hb] at this
    simp at this
  have ne2 : ∀ b b', b < n → b' < n → bs b ||| 2 ^ p = bs b' ||| 2 ^ p → b = b' := fun b b' hb hb' z => by
    refine r2 b b' hb hb' ?_
    rw [← or_xor (nob b hb), z, or_xor (nob b' hb')]
  refine Cal_of kn_X7_divide rfl (Nat.le_of_ble_eq_true rfl) ?_
  refine V_aload_n dX7_divide_0 rfl rfl ?_
  refine V_getI dX7_divide_1 fl_X7_60 (by first | assumption | exact ⟨by decide, rfl⟩) ?_
  refine V_istore_3 dX7_divide_4 (by decide) rfl (V_iconst (v := 0) dX7_divide_5 (by decide) (V_istore_4 dX7_divide_6 (by decide) rfl ?_))
  rw [hn]
  have key : ∀ b, b ≤ n → ∀ (I1 : TI) (m : Nat) (bs' : Nat → Nat) (o5 o6 o7 : Option Value), (∀ x y, (x ≠ 59 ∨ y ≠ 4) → x ≠ 62 → x ≠ 63 → I1 x y = I x y) → I1 59 4 = nI m → n ≤ m → m ≤ n + b → (∀ j, b ≤ j → j < n → I1 62 j = nI (bs j) ∧ I1 63 j = nI (f (bs j))) → (∀ j, j < m → (j < b ∨ n ≤ j) → I1 62 j = nI (bs' j) ∧ I1 63 j = nI (dvd1 w p f (bs' j)) ∧ 0 < dvd1 w p f (bs' j)) → (∀ j, j < m → (j < b ∨ n ≤ j) → ∃ b0, b0 < b ∧ (bs' j = bs b0 ∨ bs' j = bs b0 ||| 2 ^ p)) → (∀ j j', j < m → (j < b ∨ n ≤ j) → j' < m → (j' < b ∨ n ≤ j') → bs' j = bs' j' → j = j') → (∀ c b0, 0 < dvd1 w p f c → b0 < b → (c = bs b0 ∨ c = bs b0 ||| 2 ^ p) → ∃ j, j < m ∧ (j < b ∨ n ≤ j) ∧ bs' j = c) → V E d M_X7_divide Post 8 [some (.ref 59), some (.int (nI p)), some (.int (nI w)), some (.int (nI n)), some (.int (nI b)), o5, o6, o7] [] NC 0 0 I1 J (RR co dr cc a1 a2) := by
    refine loop_up _ ?_ ?_
    · intro I1 m bs' o5 o6 o7 g1 g2 g3 g4 g5 g6 g7 g8 g9
      refine V_iload dX7_divide_8 rfl (V_iload_n dX7_divide_10 rfl rfl ?_)
      refine V_icmp_ge_t (tgt := 123) dX7_divide_11 (by decide) (nI_le (Nat.le_refl _) (by omega)) ?_
      refine V_return dX7_divide_123 rfl rfl (by decide) (by decide) ?_
      refine Kk I1 m g1 (by omega) g2 ⟨bs', fun j hj => g6 j hj (by omega), fun j j' h1 h2 => g8 j j' h1 (by omega) h2 (by omega), fun c hc => ?_⟩
      by_cases hb : c.testBit p = true
      · have hpos : 0 < f (c ^^^ 2 ^ p) := by unfold dvd1 at hc; rw [if_pos hb] at hc; omega
        obtain ⟨b0, hb0, e0⟩ := r3 _ hpos
        obtain ⟨j, j1, _, j3⟩ := g9 c b0 hc hb0 (Or.inr (by rw [e0, xor_or hb]))
        exact ⟨j, j1, j3⟩
      · have hpos : 0 < f c := by
          unfold dvd1 at hc; rw [if_neg hb] at hc
          refine Nat.pos_of_ne_zero (fun z => ?_)
          rw [z, sty_0] at hc; omega
        obtain ⟨b0, hb0, e0⟩ := r3 _ hpos
        obtain ⟨j, j1, _, j3⟩ := g9 c b0 hc hb0 (Or.inl e0.symm)
        exact ⟨j, j1, j3⟩
    · intro b hb ih I1 m bs' o5 o6 o7 g1 g2 g3 g4 g5 g6 g7 g8 g9
      obtain ⟨q1, q2⟩ := g5 b (Nat.le_refl _) hb
      have hx := (r1 b hb).2.2
      have hxl := hfl (bs b)
      have hst := sty_le (x := f (bs b)) hw
      have glo : dvd1 w p f (bs b) = sty w (f (bs b)) := dvd1_lo (nob b hb)
      have ghi : dvd1 w p f (bs b ||| 2 ^ p) = f (bs b) - sty w (f (bs b)) := dvd1_hi (nob b hb)
      -- a processed one never has the sets of b
      have apart : ∀ j, j < m → (j < b ∨ n ≤ j) → bs' j ≠ bs b ∧ bs' j ≠ bs b ||| 2 ^ p := fun j h1 h2 => by
        obtain ⟨b0, h3, h4⟩ := g7 j h1 h2
        have hb0 : b0 < n := by omega
        refine ⟨fun z => ?_, fun z => ?_⟩
        · rcases h4 with h4 | h4
          · have := r2 b0 b hb0 hb (by rw [← h4]; exact z); omega
          · exact ne1 b b0 hb hb0 (by rw [← z]; exact h4)
        · rcases h4 with h4 | h4
          · exact ne1 b0 b hb0 hb (by rw [← h4]; exact z)
          · have := ne2 b0 b hb0 hb (by rw [← h4]; exact z); omega
      by_cases hs0 : sty w (f (bs b)) = 0
      · refine V_iload dX7_divide_8 rfl (V_iload_n dX7_divide_10 rfl rfl ?_)
        refine V_icmp_ge_f (tgt := 123) dX7_divide_11 (by decide) (nI_ge hb (by omega)) ?_
        refine V_aload_n dX7_divide_14 rfl rfl ?_
        refine V_getR dX7_divide_15 fl_X7_21 (by first | assumption | exact ⟨by decide, rfl⟩) (by first | assumption | rfl) ?_
        refine V_iload dX7_divide_18 rfl ?_
        refine V_ial dX7_divide_20 (by first | assumption | exact ⟨by decide, rfl⟩) (show ix _ b 1024 from ⟨rfl, by omega⟩) ?_
        refine V_istore_5 dX7_divide_21 (by decide) rfl (V_iload dX7_divide_23 rfl (V_i2l dX7_divide_25 (V_iload_n dX7_divide_26 rfl rfl (V_i2l dX7_divide_27 (V_lmul dX7_divide_28 ?_)))))
        refine V_ldc2_w dX7_divide_29 ct_X7_78 (V_ldiv dX7_divide_32 (by decide) (V_l2i dX7_divide_33 (V_istore_6 dX7_divide_34 (by decide) rfl (V_aload_n dX7_divide_36 rfl rfl ?_))))
        refine V_getR dX7_divide_37 fl_X7_18 (by first | assumption | exact ⟨by decide, rfl⟩) (by first | assumption | rfl) ?_
        refine V_iload dX7_divide_40 rfl ?_
        refine V_ial dX7_divide_42 (by first | assumption | exact ⟨by decide, rfl⟩) (show ix _ b 1024 from ⟨rfl, by omega⟩) ?_
        refine V_iconst (v := 1) dX7_divide_43 (by decide) (V_iload_n dX7_divide_44 rfl rfl (V_ishl dX7_divide_45 (V_ior dX7_divide_46 (V_istore_7 dX7_divide_47 (by decide) rfl (V_iload dX7_divide_49 rfl ?_)))))
        refine V_if_ne_f (tgt := 66) dX7_divide_51 (by decide) (by rw [q2, sty_nI hxl hw, hs0]; rfl) ?_
        refine V_aload_n dX7_divide_54 rfl rfl ?_
        refine V_getR dX7_divide_55 fl_X7_18 (by first | assumption | exact ⟨by decide, rfl⟩) (by first | assumption | rfl) ?_
        refine V_iload dX7_divide_58 rfl (V_iload dX7_divide_60 rfl ?_)
        refine V_ias dX7_divide_62 (by first | assumption | exact ⟨by decide, rfl⟩) (show ix _ b 1024 from ⟨rfl, by omega⟩) ?_
        refine V_goto (tgt := 117) dX7_divide_63 (by decide) (V_iinc_4 (w := 1) dX7_divide_117 (by decide) (by decide) rfl (V_goto (tgt := 8) dX7_divide_120 (by decide) ?_))
        rw [nI_1, q1, shl1 (by omega), or_nI]
        refine ih _ m (fun j => if j = b then bs b ||| 2 ^ p else bs' j) _ _ _ (fun x y h1 h2 h3 => by rw [u2n (by omega)]; exact g1 x y h1 h2 h3) (by rw [u2n (by omega)]; exact g2) g3 (by omega) (fun j h1 h2 => ?_) (fun j h1 h2 => ?_) (fun j h1 h2 => ?_) (fun j j' h1 h2 h3 h4 => ?_) (fun c b0 h1 h2 h3 => ?_)
        · rw [u2n (by omega), u2n (by omega)]; exact g5 j (by omega) h2
        · by_cases hj : j = b
          · subst hj
            rw [u2e, u2n (by omega), if_pos rfl, ghi, q2, hs0, Nat.sub_zero]
            exact ⟨rfl, rfl, hx⟩
          · rw [u2n (by omega), u2n (by omega), if_neg hj]; exact g6 j h1 (by omega)
        · by_cases hj : j = b
          · subst hj; rw [if_pos rfl]; exact ⟨j, by omega, Or.inr rfl⟩
          · rw [if_neg hj]
            obtain ⟨b0, h3, h4⟩ := g7 j h1 (by omega)
            exact ⟨b0, by omega, h4⟩
        · intro he
          by_cases hj : j = b
          · by_cases hj' : j' = b
            · omega
            · rw [if_pos hj, if_neg hj'] at he
              exact absurd he.symm (apart j' h3 (by omega)).2
          · by_cases hj' : j' = b
            · rw [if_neg hj, if_pos hj'] at he
              exact absurd he (apart j h1 (by omega)).2
            · rw [if_neg hj, if_neg hj'] at he
              exact g8 j j' h1 (by omega) h3 (by omega) he
        · by_cases hb0 : b0 = b
          · subst hb0
            rcases h3 with h3 | h3
            · rw [h3, glo, hs0] at h1; omega
            · exact ⟨b0, by omega, by omega, by rw [if_pos rfl, h3]⟩
          · obtain ⟨j, j1, j2, j3⟩ := g9 c b0 h1 (by omega) h3
            exact ⟨j, j1, by omega, by rw [if_neg (by omega)]; exact j3⟩
      · have hT : (nI (sty w (f (bs b))) : Int32) ≠ 0 := by rw [← nI_0]; exact fun z => hs0 ((nI_eq (by omega) (by decide)).mp z)
        by_cases hlt : sty w (f (bs b)) < f (bs b)
        · refine V_iload dX7_divide_8 rfl (V_iload_n dX7_divide_10 rfl rfl ?_)
          refine V_icmp_ge_f (tgt := 123) dX7_divide_11 (by decide) (nI_ge hb (by omega)) ?_
          refine V_aload_n dX7_divide_14 rfl rfl ?_
          refine V_getR dX7_divide_15 fl_X7_21 (by first | assumption | exact ⟨by decide, rfl⟩) (by first | assumption | rfl) ?_
          refine V_iload dX7_divide_18 rfl ?_
          refine V_ial dX7_divide_20 (by first | assumption | exact ⟨by decide, rfl⟩) (show ix _ b 1024 from ⟨rfl, by omega⟩) ?_
          refine V_istore_5 dX7_divide_21 (by decide) rfl (V_iload dX7_divide_23 rfl (V_i2l dX7_divide_25 (V_iload_n dX7_divide_26 rfl rfl (V_i2l dX7_divide_27 (V_lmul dX7_divide_28 ?_)))))
          refine V_ldc2_w dX7_divide_29 ct_X7_78 (V_ldiv dX7_divide_32 (by decide) (V_l2i dX7_divide_33 (V_istore_6 dX7_divide_34 (by decide) rfl (V_aload_n dX7_divide_36 rfl rfl ?_))))
          refine V_getR dX7_divide_37 fl_X7_18 (by first | assumption | exact ⟨by decide, rfl⟩) (by first | assumption | rfl) ?_
          refine V_iload dX7_divide_40 rfl ?_
          refine V_ial dX7_divide_42 (by first | assumption | exact ⟨by decide, rfl⟩) (show ix _ b 1024 from ⟨rfl, by omega⟩) ?_
          refine V_iconst (v := 1) dX7_divide_43 (by decide) (V_iload_n dX7_divide_44 rfl rfl (V_ishl dX7_divide_45 (V_ior dX7_divide_46 (V_istore_7 dX7_divide_47 (by decide) rfl (V_iload dX7_divide_49 rfl ?_)))))
          refine V_if_ne_t (tgt := 66) dX7_divide_51 (by decide) (by rw [q2, sty_nI hxl hw]; exact hT) ?_
          refine V_iload dX7_divide_66 rfl (V_iload dX7_divide_68 rfl ?_)
          refine V_icmp_ge_f (tgt := 117) dX7_divide_70 (by decide) (by rw [q2, sty_nI hxl hw]; exact nI_ge hlt (by omega)) ?_
          refine V_aload_n dX7_divide_73 rfl rfl ?_
          refine V_getR dX7_divide_74 fl_X7_21 (by first | assumption | exact ⟨by decide, rfl⟩) (by first | assumption | rfl) ?_
          refine V_iload dX7_divide_77 rfl (V_iload dX7_divide_79 rfl ?_)
          refine V_ias dX7_divide_81 (by first | assumption | exact ⟨by decide, rfl⟩) (show ix _ b 1024 from ⟨rfl, by omega⟩) ?_
          refine V_aload_n dX7_divide_82 rfl rfl ?_
          refine V_getR dX7_divide_83 fl_X7_18 (by first | assumption | exact ⟨by decide, rfl⟩) (by first | assumption | rfl) ?_
          refine V_aload_n dX7_divide_86 rfl rfl ?_
          refine V_getI dX7_divide_87 fl_X7_60 (by first | assumption | exact ⟨by decide, rfl⟩) ?_
          refine V_iload dX7_divide_90 rfl ?_
          refine V_ias dX7_divide_92 (by first | assumption | exact ⟨by decide, rfl⟩) (show ix _ m 1024 from ⟨by rw [u2n (by omega)]; exact g2, by omega⟩) ?_
          refine V_aload_n dX7_divide_93 rfl rfl ?_
          refine V_getR dX7_divide_94 fl_X7_21 (by first | assumption | exact ⟨by decide, rfl⟩) (by first | assumption | rfl) ?_
          refine V_aload_n dX7_divide_97 rfl rfl ?_
          refine V_getI dX7_divide_98 fl_X7_60 (by first | assumption | exact ⟨by decide, rfl⟩) ?_
          refine V_iload dX7_divide_101 rfl (V_iload dX7_divide_103 rfl (V_isub dX7_divide_105 ?_))
          refine V_ias dX7_divide_106 (by first | assumption | exact ⟨by decide, rfl⟩) (show ix _ m 1024 from ⟨by rw [u2n (by omega), u2n (by omega)]; exact g2, by omega⟩) ?_
          refine V_aload_n dX7_divide_107 rfl rfl (V_dup dX7_divide_108 rfl ?_)
          refine V_getI dX7_divide_109 fl_X7_60 (by first | assumption | exact ⟨by decide, rfl⟩) ?_
          refine V_iconst (v := 1) dX7_divide_112 (by decide) (V_iadd dX7_divide_113 ?_)
          refine V_putI dX7_divide_114 fl_X7_60 (by first | assumption | exact ⟨by decide, rfl⟩) ?_
          refine V_iinc_4 (w := 1) dX7_divide_117 (by decide) (by decide) rfl (V_goto (tgt := 8) dX7_divide_120 (by decide) ?_)
          rw [nI_1, q1, q2, sty_nI hxl hw, shl1 (by omega), or_nI, pk_sub hst, u2n (by omega), u2n (by omega), u2n (by omega), g2, nI_1]
          refine ih _ (m + 1) (fun j => if j = b then bs b else if j = m then bs b ||| 2 ^ p else bs' j) _ _ _ (fun x y h1 h2 h3 => by rw [u2n (by omega), u2n (by omega), u2n (by omega), u2n (by omega)]; exact g1 x y h1 h2 h3) (by rw [u2e]) (by omega) (by omega) (fun j h1 h2 => ?_) (fun j h1 h2 => ?_) (fun j h1 h2 => ?_) (fun j j' h1 h2 h3 h4 => ?_) (fun c b0 h1 h2 h3 => ?_)
          · obtain ⟨z1, z2⟩ := g5 j (by omega) h2
            refine ⟨?_, ?_⟩
            · rw [u2n (by omega), u2n (by omega), u2n (by omega), u2n (by omega)]; exact z1
            · rw [u2n (by omega), u2n (by omega), u2n (by omega), u2n (by omega)]; exact z2
          · by_cases hj : j = b
            · subst hj
              rw [if_pos rfl, glo]
              refine ⟨?_, ?_, by omega⟩
              · rw [u2n (by omega), u2n (by omega), u2n (by omega), u2n (by omega)]; exact q1
              · rw [u2n (by omega), u2n (by omega), u2n (by omega), u2e]
            · by_cases hm : j = m
              · subst hm
                rw [if_neg hj, if_pos rfl, ghi]
                refine ⟨?_, ?_, by omega⟩
                · rw [u2n (by omega), u2n (by omega), u2e]
                · rw [u2n (by omega), u2e]
              · rw [if_neg hj, if_neg hm]
                obtain ⟨z1, z2, z3⟩ := g6 j (by omega) (by omega)
                refine ⟨?_, ?_, z3⟩
                · rw [u2n (by omega), u2n (by omega), u2n (by omega), u2n (by omega)]; exact z1
                · rw [u2n (by omega), u2n (by omega), u2n (by omega), u2n (by omega)]; exact z2
          · by_cases hj : j = b
            · rw [if_pos hj]; exact ⟨b, by omega, Or.inl rfl⟩
            · by_cases hm : j = m
              · rw [if_neg hj, if_pos hm]; exact ⟨b, by omega, Or.inr rfl⟩
              · rw [if_neg hj, if_neg hm]
                obtain ⟨b0, h3, h4⟩ := g7 j (by omega) (by omega)
                exact ⟨b0, by omega, h4⟩
          · intro he
            have nlh : bs b ≠ bs b ||| 2 ^ p := ne1 b b hb hb
            by_cases hj : j = b
            · by_cases hj' : j' = b
              · omega
              · by_cases hm' : j' = m
                · rw [if_pos hj, if_neg hj', if_pos hm'] at he
                  exact absurd he nlh
                · rw [if_pos hj, if_neg hj', if_neg hm'] at he
                  exact absurd he.symm (apart j' (by omega) (by omega)).1
            · by_cases hm : j = m
              · by_cases hj' : j' = b
                · rw [if_neg hj, if_pos hm, if_pos hj'] at he
                  exact absurd he.symm nlh
                · by_cases hm' : j' = m
                  · omega
                  · rw [if_neg hj, if_pos hm, if_neg hj', if_neg hm'] at he
                    exact absurd he.symm (apart j' (by omega) (by omega)).2
              · by_cases hj' : j' = b
                · rw [if_neg hj, if_neg hm, if_pos hj'] at he
                  exact absurd he (apart j (by omega) (by omega)).1
                · by_cases hm' : j' = m
                  · rw [if_neg hj, if_neg hm, if_neg hj', if_pos hm'] at he
                    exact absurd he (apart j (by omega) (by omega)).2
                  · rw [if_neg hj, if_neg hm, if_neg hj', if_neg hm'] at he
                    exact g8 j j' (by omega) (by omega) (by omega) (by omega) he
          · by_cases hb0 : b0 = b
            · subst hb0
              rcases h3 with h3 | h3
              · exact ⟨b0, by omega, by omega, by rw [if_pos rfl, h3]⟩
              · exact ⟨m, by omega, by omega, by rw [if_neg (by omega), if_pos rfl, h3]⟩
            · obtain ⟨j, j1, j2, j3⟩ := g9 c b0 h1 (by omega) h3
              exact ⟨j, by omega, by omega, by rw [if_neg (by omega), if_neg (by omega)]; exact j3⟩
        · have heq : sty w (f (bs b)) = f (bs b) := by omega
          refine V_iload dX7_divide_8 rfl (V_iload_n dX7_divide_10 rfl rfl ?_)
          refine V_icmp_ge_f (tgt := 123) dX7_divide_11 (by decide) (nI_ge hb (by omega)) ?_
          refine V_aload_n dX7_divide_14 rfl rfl ?_
          refine V_getR dX7_divide_15 fl_X7_21 (by first | assumption | exact ⟨by decide, rfl⟩) (by first | assumption | rfl) ?_
          refine V_iload dX7_divide_18 rfl ?_
          refine V_ial dX7_divide_20 (by first | assumption | exact ⟨by decide, rfl⟩) (show ix _ b 1024 from ⟨rfl, by omega⟩) ?_
          refine V_istore_5 dX7_divide_21 (by decide) rfl (V_iload dX7_divide_23 rfl (V_i2l dX7_divide_25 (V_iload_n dX7_divide_26 rfl rfl (V_i2l dX7_divide_27 (V_lmul dX7_divide_28 ?_)))))
          refine V_ldc2_w dX7_divide_29 ct_X7_78 (V_ldiv dX7_divide_32 (by decide) (V_l2i dX7_divide_33 (V_istore_6 dX7_divide_34 (by decide) rfl (V_aload_n dX7_divide_36 rfl rfl ?_))))
          refine V_getR dX7_divide_37 fl_X7_18 (by first | assumption | exact ⟨by decide, rfl⟩) (by first | assumption | rfl) ?_
          refine V_iload dX7_divide_40 rfl ?_
          refine V_ial dX7_divide_42 (by first | assumption | exact ⟨by decide, rfl⟩) (show ix _ b 1024 from ⟨rfl, by omega⟩) ?_
          refine V_iconst (v := 1) dX7_divide_43 (by decide) (V_iload_n dX7_divide_44 rfl rfl (V_ishl dX7_divide_45 (V_ior dX7_divide_46 (V_istore_7 dX7_divide_47 (by decide) rfl (V_iload dX7_divide_49 rfl ?_)))))
          refine V_if_ne_t (tgt := 66) dX7_divide_51 (by decide) (by rw [q2, sty_nI hxl hw]; exact hT) ?_
          refine V_iload dX7_divide_66 rfl (V_iload dX7_divide_68 rfl ?_)
          refine V_icmp_ge_t (tgt := 117) dX7_divide_70 (by decide) (by rw [q2, sty_nI hxl hw]; exact nI_le (by omega) (by omega)) ?_
          refine V_iinc_4 (w := 1) dX7_divide_117 (by decide) (by decide) rfl (V_goto (tgt := 8) dX7_divide_120 (by decide) ?_)
          rw [nI_1]
          refine ih I1 m (fun j => if j = b then bs b else bs' j) _ _ _ g1 g2 g3 (by omega) (fun j h1 h2 => g5 j (by omega) h2) (fun j h1 h2 => ?_) (fun j h1 h2 => ?_) (fun j j' h1 h2 h3 h4 => ?_) (fun c b0 h1 h2 h3 => ?_)
          · by_cases hj : j = b
            · subst hj
              rw [if_pos rfl, glo, heq]
              exact ⟨q1, q2, hx⟩
            · rw [if_neg hj]; exact g6 j h1 (by omega)
          · by_cases hj : j = b
            · rw [if_pos hj]; exact ⟨b, by omega, Or.inl rfl⟩
            · rw [if_neg hj]
              obtain ⟨b0, h3, h4⟩ := g7 j h1 (by omega)
              exact ⟨b0, by omega, h4⟩
          · intro he
            by_cases hj : j = b
            · by_cases hj' : j' = b
              · omega
              · rw [if_pos hj, if_neg hj'] at he
                exact absurd he.symm (apart j' h3 (by omega)).1
            · by_cases hj' : j' = b
              · rw [if_neg hj, if_pos hj'] at he
                exact absurd he (apart j h1 (by omega)).1
              · rw [if_neg hj, if_neg hj'] at he
                exact g8 j j' h1 (by omega) h3 (by omega) he
          · by_cases hb0 : b0 = b
            · subst hb0
              rcases h3 with h3 | h3
              · exact ⟨b0, by omega, by omega, by rw [if_pos rfl, h3]⟩
              · rw [h3, ghi, heq] at h1; omega
            · obtain ⟨j, j1, j2, j3⟩ := g9 c b0 h1 (by omega) h3
              exact ⟨j, j1, by omega, by rw [if_neg (by omega)]; exact j3⟩
  exact key 0 (Nat.zero_le _) I n bs _ _ _ (fun _ _ _ _ _ => rfl) hn (Nat.le_refl _) (by omega) (fun j _ hj => ⟨(r1 j hj).1, (r1 j hj).2.1⟩) (fun j h1 h2 => absurd h1 (by omega)) (fun j h1 h2 => absurd h1 (by omega)) (fun j j' h1 h2 => absurd h1 (by omega)) (fun c b0 _ h => absurd h (by omega))
end
