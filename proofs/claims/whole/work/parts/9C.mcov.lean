/-! A company with a cover more: pure -/
def cvK (K : KT) (t : Nat) : KT := up2 K 3 (t / 8) (K 3 (t / 8) ||| 2 ^ (t % 8))
def cva (K : KT) (t : Nat) : Bool := decide (t < 8 * K 0 0) && cvb K t
section
variable {K : KT} {t u : Nat}
theorem cva_in (h : cva K t = true) : t < 8 * K 0 0 ∧ t / 8 < K 0 0 ∧ t % 8 < K 0 1 ∧ skl K (t / 8) (t % 8) = true ∧ may K (t / 8) (t % 8) = false ∧ cvb K t = true := by
  unfold cva at h
  obtain ⟨h1, h2⟩ := (Bool.and_eq_true _ _).mp h
  have h1 := of_decide_eq_true h1
  have h3 := h2
  unfold cvb at h3
  obtain ⟨h4, h5⟩ := (Bool.and_eq_true _ _).mp h3
  obtain ⟨h6, h7⟩ := (Bool.and_eq_true _ _).mp h5
  exact ⟨h1, by omega, of_decide_eq_true h4, h6, by simpa using h7, h2⟩
theorem cvK_ne {f j : Nat} (h : f ≠ 3) : cvK K t f j = K f j := u2n (Or.inl h)
theorem cvK_3 (p : Nat) : cvK K t 3 p = if p = t / 8 then K 3 p ||| 2 ^ (t % 8) else K 3 p := by
  unfold cvK
  by_cases h : p = t / 8
  · rw [h, u2e, if_pos rfl]
  · rw [u2n (Or.inr h), if_neg h]
theorem cvK_skl (p i : Nat) : skl (cvK K t) p i = skl K p i := by unfold skl; rw [cvK_ne (by decide), cvK_ne (by decide)]
theorem cvK_clsL (i j : Nat) : ∀ r s l n, clsL (cvK K t) i j r s l n = clsL K i j r s l n
  | 0, s, l, n => rfl
  | r + 1, s, l, n => by
    unfold clsL
    rw [cvK_ne (f := 9) (by decide), cvK_ne (f := 10) (by decide), cvK_ne (f := 0) (by decide), cvK_clsL i j r, cvK_clsL i j r]
theorem cvK_cls (i j : Nat) : cls (cvK K t) i j = cls K i j := by unfold cls; rw [cvK_ne (by decide), cvK_clsL]
theorem cvK_clf (i j : Nat) : clf (cvK K t) i j = clf K i j := by unfold clf; rw [cvK_ne (by decide), cvK_cls]
theorem cvK_may (hs : skl K (t / 8) (t % 8) = true) (p i : Nat) : may (cvK K t) p i = (may K p i || (decide (p = t / 8) && decide (i = t % 8))) := by
  unfold may
  rw [cvK_skl, cvK_ne (by decide), cvK_3]
  by_cases h : p = t / 8
  · subst h
    rw [if_pos rfl, Nat.testBit_or, pow_tb]
    by_cases hi : i = t % 8
    · subst hi; rw [hs]; simp
    · simp [hi, Ne.symm hi]
  · rw [if_neg h]; simp [h]
theorem KB_cvK (hB : KB K) (h : cva K t = true) : KB (cvK K t) := by
  obtain ⟨-, h1, h2, -⟩ := cva_in h
  obtain ⟨b1, b2, b3, b4, b5, b6, b7⟩ := hB
  refine ⟨by simp only [cvK_ne (K := K) (t := t) (f := 0) (by decide)]; exact b1, fun p hp => ?_, fun p => ?_, fun i hi => ?_, fun i => ?_, fun s hs => ?_, fun j => ?_⟩
  · rw [cvK_ne (by decide)] at hp
    rw [cvK_ne (by decide), cvK_ne (by decide)]; exact b2 p hp
  · rw [cvK_3, cvK_ne (by decide)]
    split
    · exact Nat.or_lt_two_pow (b3 p) (Nat.pow_lt_pow_right (by decide) h2)
    · exact b3 p
  · rw [cvK_ne (by decide)] at hi
    rw [cvK_ne (by decide), cvK_ne (by decide), cvK_ne (by decide), cvK_ne (by decide)]; exact b4 i hi
  · rw [cvK_ne (by decide), cvK_ne (by decide)]; exact b5 i
  · rw [cvK_ne (by decide)] at hs
    rw [cvK_ne (by decide), cvK_ne (by decide), cvK_ne (by decide)]; exact b6 s hs
  · rw [cvK_ne (by decide)]; exact b7 j
theorem cva_cvK (hs : skl K (t / 8) (t % 8) = true) (hne : u ≠ t) : cva (cvK K t) u = cva K u := by
  unfold cva cvb
  rw [cvK_ne (by decide), cvK_ne (by decide), cvK_skl, cvK_may hs]
  have : (decide (u / 8 = t / 8) && decide (u % 8 = t % 8)) = false := by
    by_cases h1 : u / 8 = t / 8
    · have h2 : ¬ u % 8 = t % 8 := by omega
      simp [h2]
    · simp [h1]
  rw [this, Bool.or_false]
theorem cvK_back (hk : (K 3 (t / 8)).testBit (t % 8) = false) : up2 (cvK K t) 3 (t / 8) (andn (cvK K t 3 (t / 8)) (2 ^ (t % 8))) = K := by
  have e : andn (cvK K t 3 (t / 8)) (2 ^ (t % 8)) = K 3 (t / 8) := by
    rw [cvK_3, if_pos rfl]
    refine tb_ext (fun i => ?_)
    rw [andn_tb, Nat.testBit_or, pow_tb]
    by_cases hi : t % 8 = i
    · subst hi; rw [hk]; simp
    · simp [hi]
  rw [e]
  unfold cvK
  rw [up2_up2]
  exact up2_id K 3 (t / 8)
theorem may_known (h1 : skl K (t / 8) (t % 8) = true) (h2 : may K (t / 8) (t % 8) = false) : (K 3 (t / 8)).testBit (t % 8) = false ∧ K 7 (t % 8) ≠ t / 8 + 1 := by
  unfold may at h2
  rw [h1, Bool.and_true] at h2
  obtain ⟨h3, h4⟩ := Bool.or_eq_false_iff.mp h2
  exact ⟨h4, of_decide_eq_false h3⟩
theorem lft0_cvK (hs : skl K (t / 8) (t % 8) = true) (ht : t / 8 < K 0 0) (off i p : Nat) : (lft0 (cvK K t) off i).testBit p = ((lft0 K off i).testBit p || (decide (p = t / 8) && (decide (i = t % 8) && !off.testBit p))) := by
  rw [lft0_tb, lft0_tb, cvK_ne (by decide)]
  unfold okf
  rw [cvK_may hs]
  by_cases hp : p = t / 8
  · subst hp
    by_cases hi : i = t % 8
    · subst hi; simp [ht]
    · simp [hi]
  · simp [hp]
theorem lft0_cvK_ne (hs : skl K (t / 8) (t % 8) = true) (ht : t / 8 < K 0 0) (off : Nat) {i : Nat} (hi : i ≠ t % 8) : lft0 (cvK K t) off i = lft0 K off i := tb_ext (fun p => by rw [lft0_cvK hs ht]; simp [hi])
theorem EX_clf {opn : Nat} {left : Nat → Nat} : EX (clf (cvK K t)) opn left ↔ EX (clf K) opn left := by
  have e : clf (cvK K t) = clf K := funext (fun i => funext (fun j => cvK_clf i j))
  rw [e]
theorem met_cvK (h : cva K t = true) (off : Nat) : metB (cvK K t) off 0 = (metB K off 0 || hlp K off t) := by
  obtain ⟨-, h1, h2, h3, h4, -⟩ := cva_in h
  have hop : (opn0 (K 0 1) 0).testBit (t % 8) = true := by rw [opn0_tb]; simp [h2]
  have eQ : cvK K t 0 1 = K 0 1 := cvK_ne (by decide)
  have hc : ∀ q, EX (clf K) (andn (opn0 (K 0 1) 0) (2 ^ (t % 8))) (lst2 (clf K) (lft0 (cvK K t) off) (t % 8) q) ↔ EX (clf K) (andn (opn0 (K 0 1) 0) (2 ^ (t % 8))) (lst2 (clf K) (lft0 K off) (t % 8) q) := fun q => EX_cong (fun j hj => by
    rw [andn_tb, pow_tb] at hj
    have hji : j ≠ t % 8 := fun z => by rw [z] at hj; simp at hj
    unfold lst2
    rw [lft0_cvK_ne h3 h1 off hji])
  have m1 : metB (cvK K t) off 0 = true ↔ ∃ q, (lft0 (cvK K t) off (t % 8)).testBit q = true ∧ EX (clf K) (andn (opn0 (K 0 1) 0) (2 ^ (t % 8))) (lst2 (clf K) (lft0 K off) (t % 8) q) := by
    rw [metB_ex, exB, dcd_iff, EX_clf, eQ, EX_step (clf_sym K) hop]
    exact ⟨fun ⟨q, a, b⟩ => ⟨q, a, (hc q).mp b⟩, fun ⟨q, a, b⟩ => ⟨q, a, (hc q).mpr b⟩⟩
  have m2 : metB K off 0 = true ↔ ∃ q, (lft0 K off (t % 8)).testBit q = true ∧ EX (clf K) (andn (opn0 (K 0 1) 0) (2 ^ (t % 8))) (lst2 (clf K) (lft0 K off) (t % 8) q) := by
    rw [metB_ex, exB, dcd_iff, EX_step (clf_sym K) hop]
  have m3 : hlp K off t = true ↔ off.testBit (t / 8) = false ∧ EX (clf K) (andn (opn0 (K 0 1) 0) (2 ^ (t % 8))) (lst2 (clf K) (lft0 K off) (t % 8) (t / 8)) := by
    unfold hlp exB
    rw [Bool.and_eq_true, dcd_iff]
    simp
  rw [Bool.eq_iff_iff, Bool.or_eq_true, m1, m2, m3]
  constructor
  · rintro ⟨q, a, b⟩
    rw [lft0_cvK h3 h1] at a
    rcases (Bool.or_eq_true _ _).mp a with a | a
    · exact Or.inl ⟨q, a, b⟩
    · obtain ⟨a1, a2⟩ := (Bool.and_eq_true _ _).mp a
      have a1 := of_decide_eq_true a1
      subst a1
      exact Or.inr ⟨by simpa using a2, b⟩
  · rintro (⟨q, a, b⟩ | ⟨a, b⟩)
    · exact ⟨q, by rw [lft0_cvK h3 h1, a]; rfl, b⟩
    · exact ⟨t / 8, by rw [lft0_cvK h3 h1]; simp [a], b⟩
theorem andn_comm2 (a b c : Nat) : andn (andn a b) c = andn (andn a c) b := tb_ext (fun i => by
  rw [andn_tb, andn_tb, andn_tb, andn_tb]
  cases a.testBit i <;> cases b.testBit i <;> cases c.testBit i <;> rfl)
theorem lst2_comm (cl : Nat → Nat → Bool) (left : Nat → Nat) (i p j q : Nat) : lst2 cl (lst2 cl left i p) j q = lst2 cl (lst2 cl left j q) i p := by
  funext m
  unfold lst2
  by_cases h1 : cl i m = true <;> by_cases h2 : cl j m = true <;> simp [h1, h2, andn_comm2]
theorem hlp_cvK (h : cva K t = true) (hu : cva K u = true) (hne : u ≠ t) (off : Nat) : hlp (cvK K t) off u = (hlp K off u || hlp2 K off t u) := by
  obtain ⟨-, h1, h2, h3, h4, -⟩ := cva_in h
  obtain ⟨-, u1, u2, u3, u4, -⟩ := cva_in hu
  have eQ : cvK K t 0 1 = K 0 1 := cvK_ne (by decide)
  have mA : hlp (cvK K t) off u = true ↔ off.testBit (u / 8) = false ∧ EX (clf K) (andn (opn0 (K 0 1) 0) (2 ^ (u % 8))) (lst2 (clf K) (lft0 (cvK K t) off) (u % 8) (u / 8)) := by
    have e : clf (cvK K t) = clf K := funext (fun i => funext (fun j => cvK_clf i j))
    unfold hlp exB
    rw [Bool.and_eq_true, dcd_iff, e, eQ]
    simp
  have mB : hlp K off u = true ↔ off.testBit (u / 8) = false ∧ EX (clf K) (andn (opn0 (K 0 1) 0) (2 ^ (u % 8))) (lst2 (clf K) (lft0 K off) (u % 8) (u / 8)) := by
    unfold hlp exB
    rw [Bool.and_eq_true, dcd_iff]
    simp
  have mC : hlp2 K off t u = true ↔ off.testBit (t / 8) = false ∧ off.testBit (u / 8) = false ∧ t % 8 ≠ u % 8 ∧ ¬ (t / 8 = u / 8 ∧ clf K (t % 8) (u % 8) = true) ∧ EX (clf K) (andn (andn (opn0 (K 0 1) 0) (2 ^ (t % 8))) (2 ^ (u % 8))) (lst2 (clf K) (lst2 (clf K) (lft0 K off) (t % 8) (t / 8)) (u % 8) (u / 8)) := by
    unfold hlp2 exB
    simp only [Bool.and_eq_true, dcd_iff, Bool.not_eq_true', decide_eq_true_eq, Bool.and_eq_false_iff, decide_eq_false_iff_not]
    constructor
    · rintro ⟨a, b, c, e, f⟩
      refine ⟨a, b, c, ?_, f⟩
      intro z
      rcases e with e | e
      · exact e z.1
      · rw [z.2] at e; cases e
    · rintro ⟨a, b, c, e, f⟩
      refine ⟨a, b, c, ?_, f⟩
      by_cases z : t / 8 = u / 8
      · right
        cases hc : clf K (t % 8) (u % 8)
        · rfl
        · exact absurd ⟨z, hc⟩ e
      · exact Or.inl z
  rw [Bool.eq_iff_iff, Bool.or_eq_true, mA, mB, mC]
  by_cases hij : t % 8 = u % 8
  · have hc : EX (clf K) (andn (opn0 (K 0 1) 0) (2 ^ (u % 8))) (lst2 (clf K) (lft0 (cvK K t) off) (u % 8) (u / 8)) ↔ EX (clf K) (andn (opn0 (K 0 1) 0) (2 ^ (u % 8))) (lst2 (clf K) (lft0 K off) (u % 8) (u / 8)) := EX_cong (fun j hj => by
      rw [andn_tb, pow_tb] at hj
      have hji : j ≠ t % 8 := fun z => by rw [z, hij] at hj; simp at hj
      unfold lst2
      rw [lft0_cvK_ne h3 h1 off hji])
    rw [hc]
    constructor
    · exact Or.inl
    · rintro (z | z)
      · exact z
      · exact absurd hij z.2.2.1
  · have hop : (andn (opn0 (K 0 1) 0) (2 ^ (u % 8))).testBit (t % 8) = true := by
      rw [andn_tb, opn0_tb, pow_tb]
      simp [h2, Ne.symm hij]
    rw [EX_step (clf_sym K) hop, EX_step (clf_sym K) hop]
    have hc : ∀ q, EX (clf K) (andn (andn (opn0 (K 0 1) 0) (2 ^ (u % 8))) (2 ^ (t % 8))) (lst2 (clf K) (lst2 (clf K) (lft0 (cvK K t) off) (u % 8) (u / 8)) (t % 8) q) ↔ EX (clf K) (andn (andn (opn0 (K 0 1) 0) (2 ^ (u % 8))) (2 ^ (t % 8))) (lst2 (clf K) (lst2 (clf K) (lft0 K off) (u % 8) (u / 8)) (t % 8) q) := fun q => EX_cong (fun j hj => by
      rw [andn_tb, pow_tb] at hj
      have hji : j ≠ t % 8 := fun z => by rw [z] at hj; simp at hj
      unfold lst2
      rw [lft0_cvK_ne h3 h1 off hji])
    have hb : ∀ q, (lst2 (clf K) (lft0 (cvK K t) off) (u % 8) (u / 8) (t % 8)).testBit q = true ↔ (lst2 (clf K) (lft0 K off) (u % 8) (u / 8) (t % 8)).testBit q = true ∨ (q = t / 8 ∧ off.testBit q = false ∧ ¬ (clf K (u % 8) (t % 8) = true ∧ q = u / 8)) := by
      intro q
      unfold lst2
      by_cases hcl : clf K (u % 8) (t % 8) = true
      · rw [if_pos hcl, if_pos hcl, andn_tb, andn_tb, lft0_cvK h3 h1, pow_tb]
        by_cases hq : u / 8 = q
        · simp [hq, hcl]
        · by_cases hq2 : q = t / 8
          · subst hq2; simp [hq, Ne.symm hq]
          · simp [hq, hq2]
      · rw [if_neg hcl, if_neg hcl, lft0_cvK h3 h1]
        by_cases hq2 : q = t / 8
        · subst hq2; simp [hcl]
        · simp [hq2]
    have hcm : EX (clf K) (andn (andn (opn0 (K 0 1) 0) (2 ^ (u % 8))) (2 ^ (t % 8))) (lst2 (clf K) (lst2 (clf K) (lft0 K off) (u % 8) (u / 8)) (t % 8) (t / 8)) ↔ EX (clf K) (andn (andn (opn0 (K 0 1) 0) (2 ^ (t % 8))) (2 ^ (u % 8))) (lst2 (clf K) (lst2 (clf K) (lft0 K off) (t % 8) (t / 8)) (u % 8) (u / 8)) := by
      rw [andn_comm2, lst2_comm]
    have hsy := clf_sym K (t % 8) (u % 8)
    constructor
    · rintro ⟨a, q, b, c⟩
      rcases (hb q).mp b with b | ⟨b1, b2, b3⟩
      · exact Or.inl ⟨a, q, b, (hc q).mp c⟩
      · subst b1
        exact Or.inr ⟨b2, a, hij, fun z => b3 ⟨by rw [← hsy]; exact z.2, z.1⟩, hcm.mp ((hc _).mp c)⟩
    · rintro (⟨a, q, b, c⟩ | ⟨a, b, c, e, f⟩)
      · exact ⟨a, q, (hb q).mpr (Or.inl b), (hc q).mpr c⟩
      · exact ⟨b, t / 8, (hb _).mpr (Or.inr ⟨rfl, a, fun z => e ⟨z.2, by rw [hsy]; exact z.1⟩⟩), (hc _).mpr (hcm.mpr f)⟩
theorem wk_cvK (h : cva K t = true) (k s : Nat) : wk (cvK K t) k s = (wk K k s && !hlp K s t) := by
  unfold wk
  rw [met_cvK h]
  cases metB K s 0 <;> cases hlp K s t <;> simp
theorem wW_cvK (h : cva K t = true) (k : Nat) : wW (cvK K t) k = wt K k t := by
  unfold wW wt
  rw [cvK_ne (by decide)]
  exact fb_ct_cong (fun s _ => wk_cvK h k s)
theorem wW1 (h : cva K t = true) : wW (cvK K t) 2 = 0 ↔ ∀ w, w < wW K 2 → hlp K (wkn K 2 w) t = true := by
  rw [wW_cvK h]
  unfold wt
  rw [fb_ct_zero]
  constructor
  · intro z w hw
    obtain ⟨a, b, c⟩ := nthf_ok hw
    have := z _ a
    rw [show wk K 2 (nthf (wk K 2) (2 ^ K 0 0) w) = true from b, Bool.true_and] at this
    show hlp K (nthf (wk K 2) (2 ^ K 0 0) w) t = true
    simpa using this
  · intro z s hs
    cases hw : wk K 2 s
    · rfl
    · have hlt : fb_ct (wk K 2) s < wW K 2 := by
        unfold wW
        have h1 := fb_ct_mono (wk K 2) (show s + 1 ≤ 2 ^ K 0 0 by omega)
        rw [fb_ct_succ, hw, if_pos rfl] at h1
        omega
      have h2 := z _ hlt
      have h3 : wkn K 2 (fb_ct (wk K 2) s) = s := nthf_at hw hs
      rw [h3] at h2
      rw [h2]; rfl
theorem wW2 (h : cva K t = true) (hu : cva K u = true) (hne : u ≠ t) : wW (cvK (cvK K t) u) 2 = 0 ↔ ∀ w, w < wW K 2 → hlp K (wkn K 2 w) t = true ∨ hlp K (wkn K 2 w) u = true ∨ hlp2 K (wkn K 2 w) t u = true := by
  have h3 := (cva_in h).2.2.2.1
  have hu' : cva (cvK K t) u = true := by rw [cva_cvK h3 hne]; exact hu
  rw [wW_cvK hu']
  unfold wt
  rw [cvK_ne (by decide), fb_ct_zero]
  have e : ∀ s, (wk (cvK K t) 2 s && !hlp (cvK K t) s u) = (wk K 2 s && !(hlp K s t || (hlp K s u || hlp2 K s t u))) := by
    intro s
    rw [wk_cvK h, hlp_cvK h hu hne]
    cases wk K 2 s <;> cases hlp K s t <;> cases hlp K s u <;> cases hlp2 K s t u <;> rfl
  constructor
  · intro z w hw
    obtain ⟨a, b, c⟩ := nthf_ok hw
    have := z _ a
    rw [e, show wk K 2 (nthf (wk K 2) (2 ^ K 0 0) w) = true from b, Bool.true_and] at this
    have h9 : (hlp K (wkn K 2 w) t || (hlp K (wkn K 2 w) u || hlp2 K (wkn K 2 w) t u)) = true := by rw [Bool.not_eq_false'] at this; exact this
    simpa using h9
  · intro z s hs
    rw [e]
    cases hw : wk K 2 s
    · rfl
    · have hlt : fb_ct (wk K 2) s < wW K 2 := by
        unfold wW
        have h1 := fb_ct_mono (wk K 2) (show s + 1 ≤ 2 ^ K 0 0 by omega)
        rw [fb_ct_succ, hw, if_pos rfl] at h1
        omega
      have h2 := z _ hlt
      have h4 : wkn K 2 (fb_ct (wk K 2) s) = s := nthf_at hw hs
      rw [h4] at h2
      rcases h2 with h2 | h2 | h2 <;> rw [h2] <;> simp
/-- the covers by their places -/
theorem oneB_iff : oneB K = true ↔ ∃ t, cva K t = true ∧ wW (cvK K t) 2 = 0 := by
  unfold oneB
  rw [dcd_iff]
  constructor
  · rintro ⟨c, hc, hw⟩
    obtain ⟨a, b, e⟩ := cvn_ok hc
    have hv : cva K (cvn K c) = true := by unfold cva; rw [decide_eq_true a, b]; rfl
    exact ⟨cvn K c, hv, (wW1 hv).mpr hw⟩
  · rintro ⟨t, ht, hw⟩
    obtain ⟨a, -, -, -, -, b⟩ := cva_in ht
    have hlt : fb_ct (cvb K) t < ncv K := by
      unfold ncv
      have h1 := fb_ct_mono (cvb K) (show t + 1 ≤ 8 * K 0 0 by omega)
      rw [fb_ct_succ, b, if_pos rfl] at h1
      omega
    have e : cvn K (fb_ct (cvb K) t) = t := nthf_at b a
    exact ⟨fb_ct (cvb K) t, hlt, fun w h => by rw [e]; exact (wW1 ht).mp hw w h⟩
theorem twoB_iff : twoB K = true ↔ ∃ t u, t < u ∧ cva K t = true ∧ cva K u = true ∧ wW (cvK (cvK K t) u) 2 = 0 := by
  unfold twoB enB
  rw [dcd_iff]
  constructor
  · rintro ⟨c, c', hcc, hc', hw⟩
    have hw := dcd_iff.mp hw
    obtain ⟨a, b, e⟩ := cvn_ok (show c < ncv K by omega)
    obtain ⟨a', b', e'⟩ := cvn_ok hc'
    have hv : cva K (cvn K c) = true := by unfold cva; rw [decide_eq_true a, b]; rfl
    have hv' : cva K (cvn K c') = true := by unfold cva; rw [decide_eq_true a', b']; rfl
    have hlt : cvn K c < cvn K c' := by
      apply Classical.byContradiction
      intro z
      have := fb_ct_mono (cvb K) (show cvn K c' ≤ cvn K c by omega)
      rw [e, e'] at this
      omega
    exact ⟨cvn K c, cvn K c', hlt, hv, hv', (wW2 hv hv' (by omega)).mpr hw⟩
  · rintro ⟨t, u, htu, ht, hu, hw⟩
    obtain ⟨a, -, -, -, -, b⟩ := cva_in ht
    obtain ⟨a', -, -, -, -, b'⟩ := cva_in hu
    have h1 := fb_ct_mono (cvb K) (show t + 1 ≤ u by omega)
    rw [fb_ct_succ, b, if_pos rfl] at h1
    have h2 := fb_ct_mono (cvb K) (show u + 1 ≤ 8 * K 0 0 by omega)
    rw [fb_ct_succ, b', if_pos rfl] at h2
    have e : cvn K (fb_ct (cvb K) t) = t := nthf_at b a
    have e' : cvn K (fb_ct (cvb K) u) = u := nthf_at b' a'
    refine ⟨fb_ct (cvb K) t, fb_ct (cvb K) u, by omega, by unfold ncv; omega, dcd_t (fun w h => ?_)⟩
    rw [e, e']
    exact (wW2 ht hu (by omega)).mp hw w h
end
