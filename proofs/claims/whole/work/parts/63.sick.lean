/-! The sickness, pure: how a state divides, a day, the days -/
def wlr (K : KT) (s p : Nat) : Nat → Nat
  | 0 => 1000000
  | n + 1 => if s.testBit n then wlr K s p n * (100 - K 11 (10 * n + p)) / 100 else wlr K s p n
def wl (K : KT) (s p : Nat) : Nat := wlr K s p (K 0 0)
theorem wlr_le (K : KT) (s p : Nat) : ∀ n, wlr K s p n ≤ 1000000
  | 0 => Nat.le_refl _
  | n + 1 => by
    have := wlr_le K s p n
    unfold wlr
    split
    · refine Nat.div_le_of_le_mul ?_
      have h1 : wlr K s p n * (100 - K 11 (10 * n + p)) ≤ wlr K s p n * 100 := Nat.mul_le_mul_left _ (by omega)
      omega
    · exact this
def sty (w x : Nat) : Nat := x * w / 1000000
theorem sty_le {w x : Nat} (h : w ≤ 1000000) : sty w x ≤ x := Nat.div_le_of_le_mul (by
  have : x * w ≤ x * 1000000 := Nat.mul_le_mul_left _ h
  omega)
theorem sty_0 (w : Nat) : sty w 0 = 0 := by unfold sty; rw [Nat.zero_mul]
/-- one step: the players that are well divide by player q -/
def dvd1 (w q : Nat) (f : Nat → Nat) : Nat → Nat := fun c => if c.testBit q then f (c ^^^ 2 ^ q) - sty w (f (c ^^^ 2 ^ q)) else sty w (f c)
def pt (K : KT) (s a : Nat) : Nat → Nat → Nat
  | 0 => fun c => if c = s then a else 0
  | q + 1 => if s.testBit q then pt K s a q else dvd1 (wl K s q) q (pt K s a q)
theorem pt_le (K : KT) (s a : Nat) : ∀ q c, pt K s a q c ≤ a
  | 0, c => by unfold pt; split <;> omega
  | q + 1, c => by
    unfold pt
    split
    · exact pt_le K s a q c
    · unfold dvd1
      split
      · have := pt_le K s a q (c ^^^ 2 ^ q); omega
      · exact Nat.le_trans (sty_le (wlr_le _ _ _ _)) (pt_le K s a q c)
theorem pt_zero (K : KT) (s q c : Nat) : pt K s 0 q c = 0 := Nat.le_zero.mp (pt_le K s 0 q c)
theorem xor_tb (c q i : Nat) : (c ^^^ 2 ^ q).testBit i = (c.testBit i ^^ decide (i = q)) := fb_bit_flip c q i
theorem pt_sup (K : KT) (s a : Nat) : ∀ q c, 0 < pt K s a q c → (∀ i, s.testBit i = true → c.testBit i = true) ∧ ∀ i, c.testBit i = true → s.testBit i = true ∨ i < q
  | 0, c, h => by
    have : c = s := by
      unfold pt at h
      by_cases e : c = s
      · exact e
      · rw [if_neg e] at h; omega
    subst this
    exact ⟨fun _ h => h, fun _ h => Or.inl h⟩
  | q + 1, c, h => by
    unfold pt at h
    by_cases hs : s.testBit q = true
    · rw [if_pos hs] at h
      have := pt_sup K s a q c h
      exact ⟨this.1, fun i hi => (this.2 i hi).imp_right (by omega)⟩
    · rw [if_neg hs] at h
      unfold dvd1 at h
      by_cases hc : c.testBit q = true
      · rw [if_pos hc] at h
        have := pt_sup K s a q (c ^^^ 2 ^ q) (by omega)
        refine ⟨fun i hi => ?_, fun i hi => ?_⟩
        · have h2 := this.1 i hi
          rw [xor_tb] at h2
          by_cases e : i = q
          · subst e; exact hc
          · simpa [e] using h2
        · by_cases e : i = q
          · subst e; right; omega
          · have h2 := this.2 i (by rw [xor_tb, hi]; simp [e])
            exact h2.imp_right (by omega)
      · rw [if_neg hc] at h
        have := pt_sup K s a q c (by
          refine Nat.pos_of_ne_zero (fun z => ?_)
          rw [z, sty_0] at h; omega)
        exact ⟨this.1, fun i hi => (this.2 i hi).imp_right (by omega)⟩
theorem pow_dbl (P : Nat) : (2 : Nat) ^ (P + 1) = 2 ^ P + 2 ^ P := by rw [Nat.pow_succ]; omega
theorem add_pow_tb {P k i : Nat} (hk : k < 2 ^ P) : (2 ^ P + k).testBit i = if i = P then true else k.testBit i := by
  rw [show 2 ^ P + k = k ||| 2 ^ P by rw [Nat.or_comm]; have := Nat.two_pow_add_eq_or_of_lt hk 1; simpa using this, Nat.testBit_or, pow_tb]
  by_cases e : i = P
  · subst e; simp
  · simp [e, Ne.symm e]
theorem add_pow_xor {P q k : Nat} (hk : k < 2 ^ P) (hq : q < P) : (2 ^ P + k) ^^^ 2 ^ q = 2 ^ P + (k ^^^ 2 ^ q) := by
  have hk2 : k ^^^ 2 ^ q < 2 ^ P := Nat.xor_lt_two_pow hk (Nat.pow_lt_pow_right (by decide) hq)
  refine tb_ext (fun i => ?_)
  rw [xor_tb, add_pow_tb hk, add_pow_tb hk2, xor_tb]
  by_cases e : i = P
  · subst e
    have : i ≠ q := by omega
    simp [this]
  · simp [e]
theorem pairsum {q : Nat} : ∀ (P : Nat) (f : Nat → Nat), q < P → fb_sm f (2 ^ P) = fb_sm (fun c => if c.testBit q then 0 else f c + f (c ^^^ 2 ^ q)) (2 ^ P)
  | 0, f, h => absurd h (by omega)
  | P + 1, f, h => by
    rw [pow_dbl, fb_sm_split, fb_sm_split]
    by_cases e : q = P
    · subst e
      have e1 : fb_sm (fun c => if c.testBit q then 0 else f c + f (c ^^^ 2 ^ q)) (2 ^ q) = fb_sm (fun c => f c + f (2 ^ q + c)) (2 ^ q) := fb_sm_cong (fun c hc => by
        have hb : c.testBit q = false := tb_big hc (Nat.le_refl _)
        rw [hb]
        have : c ^^^ 2 ^ q = 2 ^ q + c := tb_ext (fun i => by
          rw [xor_tb, add_pow_tb hc]
          by_cases e : i = q
          · subst e; simp [hb]
          · simp [e])
        rw [this]; rfl)
      have e2 : fb_sm (fun k => (fun c => if c.testBit q then 0 else f c + f (c ^^^ 2 ^ q)) (2 ^ q + k)) (2 ^ q) = fb_sm (fun _ => 0) (2 ^ q) := fb_sm_cong (fun c hc => by
        dsimp only
        rw [add_pow_tb hc]; simp)
      rw [e1, e2, fb_sm_const, fb_sm_add]; omega
    · have ih1 := pairsum (q := q) P f (by omega)
      have ih2 := pairsum (q := q) P (fun k => f (2 ^ P + k)) (by omega)
      rw [ih1, ih2]
      congr 1
      refine fb_sm_cong (fun c hc => ?_)
      rw [add_pow_tb hc, if_neg e, add_pow_xor hc (by omega)]
theorem pt_sum (K : KT) {s a P : Nat} (hs : s < 2 ^ P) : ∀ q, q ≤ P → fb_sm (pt K s a q) (2 ^ P) = a
  | 0, _ => by
    have := fb_sm_upd (fun _ => 0) a hs
    rw [fb_sm_const] at this
    have e : pt K s a 0 = fun k => if k = s then a else 0 := rfl
    rw [e]; omega
  | q + 1, h => by
    have ih := pt_sum K (a := a) hs q (by omega)
    unfold pt
    split
    · exact ih
    · rename_i hsq
      rw [pairsum P _ (show q < P by omega)]
      rw [pairsum P _ (show q < P by omega)] at ih
      refine Eq.trans (fb_sm_cong (fun c hc => ?_)) ih
      by_cases hb : c.testBit q = true
      · rw [if_pos hb, if_pos hb]
      · rw [if_neg hb, if_neg hb]
        have hz : pt K s a q (c ^^^ 2 ^ q) = 0 := Nat.eq_zero_of_not_pos (fun hp => by
          have := (pt_sup K s a q _ hp).2 q (by rw [xor_tb]; simp at hb; simp [hb])
          rcases this with h1 | h1
          · exact hsq h1
          · omega)
        have hx : (c ^^^ 2 ^ q).testBit q = true := by rw [xor_tb]; simp at hb; simp [hb]
        have hxx : (c ^^^ 2 ^ q) ^^^ 2 ^ q = c := by rw [Nat.xor_assoc, Nat.xor_self, Nat.xor_zero]
        unfold dvd1
        rw [if_neg hb, if_pos hx, hxx, hz]
        have := sty_le (w := wl K s q) (x := pt K s a q c) (wlr_le _ _ _ _)
        omega
theorem fb_sm_swap (f : Nat → Nat → Nat) (m : Nat) : ∀ n, fb_sm (fun t => fb_sm (fun s => f s t) n) m = fb_sm (fun s => fb_sm (f s) m) n
  | 0 => by
    have : (fun t => fb_sm (fun s => f s t) 0) = fun _ => 0 := rfl
    rw [this, fb_sm_const]
    rfl
  | n + 1 => by
    have : (fun t => fb_sm (fun s => f s t) (n + 1)) = fun t => fb_sm (fun s => f s t) n + f n t := rfl
    rw [this, fb_sm_add, fb_sm_swap f m n]; rfl
def dayK (K : KT) (T : Nat → Nat) : Nat → Nat := fun t => fb_sm (fun s => pt K s (T s) (K 0 0) t) (2 ^ K 0 0)
def cold (K : KT) (h : Nat) : Nat → Nat → Nat
  | 0 => fun s => if s = h then 1000000 else 0
  | d + 1 => dayK K (cold K h d)
theorem one_sum {a h n : Nat} (hh : h < n) : fb_sm (fun k => if k = h then a else 0) n = a := by
  have := fb_sm_upd (fun _ => 0) a hh
  rw [fb_sm_const] at this
  omega
theorem dayK_sum (K : KT) (T : Nat → Nat) : fb_sm (dayK K T) (2 ^ K 0 0) = fb_sm T (2 ^ K 0 0) := by
  unfold dayK
  rw [fb_sm_swap (fun s t => pt K s (T s) (K 0 0) t)]
  exact fb_sm_cong (fun s hs => pt_sum K hs _ (Nat.le_refl _))
theorem cold_sum (K : KT) {h : Nat} (hh : h < 2 ^ K 0 0) (d : Nat) : fb_sm (cold K h d) (2 ^ K 0 0) = 1000000 := by
  induction d with
  | zero => exact one_sum hh
  | succ d ih => exact Eq.trans (dayK_sum K _) ih
theorem cold_le (K : KT) {h s : Nat} (hh : h < 2 ^ K 0 0) (d : Nat) (hs : s < 2 ^ K 0 0) : cold K h d s ≤ 1000000 := by
  have := fb_sm_part (cold K h d) hs
  rw [cold_sum K hh d] at this
  omega
/-- what of the sum is there when the states below s are through -/
theorem day_part (K : KT) {T : Nat → Nat} (hT : fb_sm T (2 ^ K 0 0) = 1000000) {s t : Nat} (hs : s ≤ 2 ^ K 0 0) : fb_sm (fun s => pt K s (T s) (K 0 0) t) s ≤ 1000000 := by
  have h1 : fb_sm (fun s => pt K s (T s) (K 0 0) t) s ≤ fb_sm T s := fb_sm_le (fun k _ => pt_le K k (T k) _ t)
  have h2 := fb_sm_mono T s (2 ^ K 0 0 - s)
  rw [show s + (2 ^ K 0 0 - s) = 2 ^ K 0 0 by omega, hT] at h2
  omega
