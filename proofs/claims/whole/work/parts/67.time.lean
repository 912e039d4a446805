/-! The timetable, pure and weighed -/
abbrev Itm : Type := Nat × Nat × Nat
def itK (K : KT) (td : Nat) (sd : Nat → Nat) (t : Nat) : Itm := (10 * (t / 8) + t % 8, K 6 (t % 8) - kpt K td sd (t / 8) (t % 8), (K 6 (t % 8) + 99) / 100)
def mayt (K : KT) (t : Nat) : Bool := decide (t % 8 < K 0 1) && may K (t / 8) (t % 8)
def lsM (K : KT) (td : Nat) (sd : Nat → Nat) : Nat → List Itm
  | 0 => []
  | t + 1 => if mayt K t then lsM K td sd t ++ [itK K td sd t] else lsM K td sd t
def lsT (K : KT) (td : Nat) (sd : Nat → Nat) (n : Nat) : List Itm := (lsM K td sd n).filter (fun x => decide (0 < x.2.1))
def wL : List Itm → Nat → Nat
  | [], _ => 0
  | x :: l, h => if x.2.2 ≤ h ∧ wL l h ≤ 128 * x.2.1 - x.2.2 + wL l (h - x.2.2) then 128 * x.2.1 - x.2.2 + wL l (h - x.2.2) else wL l h
def chL : List Itm → Nat → List Itm
  | [], _ => []
  | x :: l, h => if x.2.2 ≤ h ∧ wL l h ≤ 128 * x.2.1 - x.2.2 + wL l (h - x.2.2) then x :: chL l (h - x.2.2) else chL l h
def gs : List Itm → Nat
  | [] => 0
  | x :: l => x.2.1 + gs l
def hs : List Itm → Nat
  | [] => 0
  | x :: l => x.2.2 + hs l
theorem gs_app (a b : List Itm) : gs (a ++ b) = gs a + gs b := by
  induction a with
  | nil => simp [gs]
  | cons x l ih => simp [gs, ih]; omega
theorem hs_app (a b : List Itm) : hs (a ++ b) = hs a + hs b := by
  induction a with
  | nil => simp [hs]
  | cons x l ih => simp [hs, ih]; omega
/-- the bounds of the items -/
def LB (L : List Itm) : Prop := ∀ x, x ∈ L → 0 < x.2.1 ∧ x.2.1 ≤ 999 ∧ 1 ≤ x.2.2 ∧ x.2.2 ≤ 10
theorem wL_le : ∀ (l : List Itm) (h : Nat), LB l → wL l h ≤ 127872 * l.length
  | [], h, _ => by simp [wL]
  | x :: l, h, hb => by
    have hx := hb x (List.mem_cons_self ..)
    have hl : LB l := fun y hy => hb y (List.mem_cons_of_mem _ hy)
    have i1 := wL_le l h hl
    have i2 := wL_le l (h - x.2.2) hl
    unfold wL
    rw [List.length_cons]
    split <;> omega
def KC (K : KT) : Prop := fb_ct (fun t => (K 3 (t / 8)).testBit (t % 8)) 80 ≤ K 0 3
theorem own_ct (K : KT) : ∀ n, fb_ct (fun t => decide (K 7 (t % 8) = t / 8 + 1)) (8 * n) = fb_ct (fun i => decide (1 ≤ K 7 i ∧ K 7 i ≤ n)) 8
  | 0 => (fb_ct_zero.mpr (fun k _ => by simp; omega)).symm
  | n + 1 => by
    have ih := own_ct K n
    rw [show 8 * (n + 1) = 8 * n + 8 by omega, fb_ct_split, ih]
    have e : fb_ct (fun k => decide (K 7 ((8 * n + k) % 8) = (8 * n + k) / 8 + 1)) 8 = fb_ct (fun i => decide (K 7 i = n + 1)) 8 := fb_ct_cong (fun k hk => by
      rw [show (8 * n + k) % 8 = k by omega, show (8 * n + k) / 8 = n by omega])
    rw [e, ← fb_ct_or (fun k _ => by simp; omega)]
    refine fb_ct_cong (fun k _ => ?_)
    rw [Bool.eq_iff_iff]
    simp
    omega
theorem lsM_len (K : KT) (td : Nat) (sd : Nat → Nat) : ∀ n, (lsM K td sd n).length = fb_ct (mayt K) n
  | 0 => rfl
  | n + 1 => by
    unfold lsM
    rw [fb_ct_succ, ← lsM_len K td sd n]
    cases mayt K n <;> simp
theorem lsT_len {K : KT} (hB : KB K) (hC : KC K) (td : Nat) (sd : Nat → Nat) {n : Nat} (hn : n ≤ 80) : (lsT K td sd n).length ≤ 32 := by
  refine Nat.le_trans (List.length_filter_le _ _) ?_
  rw [lsM_len]
  have h1 : fb_ct (mayt K) n ≤ fb_ct (mayt K) 80 := by
    have := fb_ct_split (mayt K) n (80 - n)
    rw [show n + (80 - n) = 80 by omega] at this
    omega
  have h2 : fb_ct (mayt K) 80 ≤ fb_ct (fun t => decide (K 7 (t % 8) = t / 8 + 1)) 80 + fb_ct (fun t => (K 3 (t / 8)).testBit (t % 8)) 80 := by
    have : ∀ m, fb_ct (mayt K) m ≤ fb_ct (fun t => decide (K 7 (t % 8) = t / 8 + 1)) m + fb_ct (fun t => (K 3 (t / 8)).testBit (t % 8)) m := by
      intro m
      induction m with
      | zero => simp [fb_ct]
      | succ m ih =>
        rw [fb_ct_succ, fb_ct_succ, fb_ct_succ]
        by_cases hm : mayt K m = true
        · have : decide (K 7 (m % 8) = m / 8 + 1) = true ∨ (K 3 (m / 8)).testBit (m % 8) = true := by
            unfold mayt may at hm
            simp at hm
            rcases hm.2.1 with h | h
            · left; simpa using h
            · right; exact h
          rcases this with h | h <;> rw [h, hm] <;> simp <;> split <;> omega
        · simp only [hm, if_false]
          simp at hm
          simp
          omega
    exact this 80
  have h3 := own_ct K 10
  have h4 := fb_ct_le (fun i => decide (1 ≤ K 7 i ∧ K 7 i ≤ 10)) 8
  rw [show 8 * 10 = 80 from rfl] at h3
  have h5 : fb_ct (fun t => (K 3 (t / 8)).testBit (t % 8)) 80 ≤ 24 := Nat.le_trans hC hB.1.2.2.2.1
  omega
theorem lsM_in {K : KT} {td : Nat} {sd : Nat → Nat} : ∀ {n : Nat} {x : Itm}, x ∈ lsM K td sd n → ∃ t, t < n ∧ mayt K t = true ∧ x = itK K td sd t
  | 0, x, h => by simp [lsM] at h
  | n + 1, x, h => by
    unfold lsM at h
    by_cases hm : mayt K n = true
    · rw [if_pos hm] at h
      rcases List.mem_append.mp h with h | h
      · obtain ⟨t, h1, h2, h3⟩ := lsM_in h
        exact ⟨t, by omega, h2, h3⟩
      · exact ⟨n, by omega, hm, by simpa using h⟩
    · rw [if_neg hm] at h
      obtain ⟨t, h1, h2, h3⟩ := lsM_in h
      exact ⟨t, by omega, h2, h3⟩
theorem lsT_LB {K : KT} (hB : KB K) (td : Nat) (sd : Nat → Nat) (n : Nat) : LB (lsT K td sd n) := fun x hx => by
  obtain ⟨h1, h2⟩ := List.mem_filter.mp hx
  obtain ⟨t, h3, h4, h5⟩ := lsM_in h1
  subst h5
  unfold mayt at h4
  simp at h4 h2
  have := hB.2.2.2.1 (t % 8) h4.1
  refine ⟨h2, ?_, ?_, ?_⟩ <;> unfold itK <;> dsimp only <;> omega
theorem lsT_succ (K : KT) (td : Nat) (sd : Nat → Nat) (t : Nat) : lsT K td sd (t + 1) = if mayt K t = true ∧ 0 < (itK K td sd t).2.1 then lsT K td sd t ++ [itK K td sd t] else lsT K td sd t := by
  unfold lsT
  conv => lhs; unfold lsM
  by_cases hm : mayt K t = true
  · rw [if_pos hm, List.filter_append]
    by_cases hg : 0 < (itK K td sd t).2.1
    · rw [if_pos ⟨hm, hg⟩]; simp [hg]
    · rw [if_neg (fun z => hg z.2)]; simp [hg]
  · rw [if_neg hm, if_neg (fun z => hm z.1)]
theorem lsT_row (K : KT) (hQ : K 0 1 ≤ 8) (td : Nat) (sd : Nat → Nat) (p : Nat) : ∀ r, K 0 1 + r ≤ 8 → lsT K td sd (8 * p + K 0 1 + r) = lsT K td sd (8 * p + K 0 1)
  | 0, _ => rfl
  | r + 1, h => by
    rw [← lsT_row K hQ td sd p r (by omega), show 8 * p + K 0 1 + (r + 1) = (8 * p + K 0 1 + r) + 1 by omega, lsT_succ, if_neg]
    intro z
    have := z.1
    unfold mayt at this
    rw [show (8 * p + K 0 1 + r) % 8 = K 0 1 + r by omega] at this
    simp at this
    omega
def PRS (I : TI) (L : List Itm) : Prop := ∀ k x, L[k]? = some x → I 65 k = nI x.1 ∧ I 66 k = nI x.2.2 ∧ I 67 k = nI x.2.1
