/-! Castings: pure. ok p i: the player is there and may play the part; ct i: the part is cut; cm i: the set of parts that clash with i; tk p: the parts that a player has. A casting: for each part 0 (cut) or a player's number and 1. -/
def tset (tk : Nat → Nat) (p i : Nat) : Nat → Nat := fun q => if q = p then tk q ||| 2 ^ i else tk q
def fre (ok : Nat → Nat → Bool) (cm : Nat → Nat) (tk : Nat → Nat) (p i : Nat) : Bool := ok p i && decide (tk p &&& cm i = 0)
def CL (P : Nat) (ok : Nat → Nat → Bool) (ct : Nat → Bool) (cm : Nat → Nat) : Nat → Nat → (Nat → Nat) → List (List Nat)
  | 0, _, _ => [[]]
  | r + 1, i, tk =>
    if ct i = true then (CL P ok ct cm r (i + 1) tk).map (fun l => 0 :: l)
    else (List.range P).flatMap (fun p => if fre ok cm tk p i = true then (CL P ok ct cm r (i + 1) (tset tk p i)).map (fun l => (p + 1) :: l) else [])
/-- the players from q on, of the r + 1 parts from i on -/
def CLp (P : Nat) (ok : Nat → Nat → Bool) (ct : Nat → Bool) (cm : Nat → Nat) (r i : Nat) (tk : Nat → Nat) (q : Nat) : List (List Nat) :=
  (List.range' q (P - q)).flatMap (fun p => if fre ok cm tk p i = true then (CL P ok ct cm r (i + 1) (tset tk p i)).map (fun l => (p + 1) :: l) else [])
section
variable {P : Nat} {ok : Nat → Nat → Bool} {ct : Nat → Bool} {cm : Nat → Nat}
theorem CL_cut {r i : Nat} {tk : Nat → Nat} (h : ct i = true) : CL P ok ct cm (r + 1) i tk = (CL P ok ct cm r (i + 1) tk).map (fun l => 0 :: l) := by
  rw [CL, if_pos h]
theorem CL_all {r i : Nat} {tk : Nat → Nat} (h : ct i = false) : CL P ok ct cm (r + 1) i tk = CLp P ok ct cm r i tk 0 := by
  rw [CL, if_neg (by rw [h]; decide)]
  unfold CLp
  rw [Nat.sub_zero, List.range_eq_range']
theorem CLp_end {r i q : Nat} {tk : Nat → Nat} (h : P ≤ q) : CLp P ok ct cm r i tk q = [] := by
  unfold CLp
  rw [show P - q = 0 by omega]
  rfl
theorem CLp_free {r i q : Nat} {tk : Nat → Nat} (h : q < P) (hf : fre ok cm tk q i = true) : CLp P ok ct cm r i tk q = (CL P ok ct cm r (i + 1) (tset tk q i)).map (fun l => (q + 1) :: l) ++ CLp P ok ct cm r i tk (q + 1) := by
  unfold CLp
  rw [show P - q = (P - (q + 1)) + 1 by omega, List.range'_succ, List.flatMap_cons, if_pos hf]
theorem CLp_not {r i q : Nat} {tk : Nat → Nat} (h : q < P) (hf : fre ok cm tk q i = false) : CLp P ok ct cm r i tk q = CLp P ok ct cm r i tk (q + 1) := by
  unfold CLp
  rw [show P - q = (P - (q + 1)) + 1 by omega, List.range'_succ, List.flatMap_cons, if_neg (by rw [hf]; decide), List.nil_append]
theorem CL_len : ∀ (r i : Nat) (tk : Nat → Nat), (CL P ok ct cm r i tk).length ≤ P ^ r + 0 ∨ True
  | _, _, _ => Or.inr trivial
theorem CL_count : ∀ (r i : Nat) (tk : Nat → Nat), 1 ≤ P → (CL P ok ct cm r i tk).length ≤ P ^ r
  | 0, i, tk, _ => by simp [CL]
  | r + 1, i, tk, hP => by
    cases hc : ct i
    · rw [CL_all hc]
      have key : ∀ q, q ≤ P → (CLp P ok ct cm r i tk q).length ≤ (P - q) * P ^ r := by
        refine loop_up P ?_ ?_
        · rw [CLp_end (Nat.le_refl _)]; simp
        · intro q hq ih
          have e : (P - q) * P ^ r = P ^ r + (P - (q + 1)) * P ^ r := by
            rw [show P - q = (P - (q + 1)) + 1 by omega, Nat.succ_mul, Nat.add_comm]
          cases hf : fre ok cm tk q i
          · rw [CLp_not hq hf, e]; omega
          · rw [CLp_free hq hf, e, List.length_append, List.length_map]
            have := CL_count r (i + 1) (tset tk q i) hP
            omega
      have := key 0 (Nat.zero_le _)
      rw [Nat.sub_zero] at this
      rw [Nat.pow_succ, Nat.mul_comm]
      exact this
    · rw [CL_cut hc, List.length_map]
      have h1 := CL_count r (i + 1) tk hP
      have h2 : P ^ r ≤ P ^ (r + 1) := Nat.pow_le_pow_right hP (by omega)
      omega
/-- trouble of the parts from i on -/
def TS (tb : Nat → Nat → Nat) : Nat → List Nat → Nat
  | _, [] => 0
  | i, w :: l => (if w = 0 then 0 else tb (w - 1) i) + TS tb (i + 1) l
/-- the best so far, castings being looked at one behind the other: trouble and casting -/
def bst (tb : Nat → Nat → Nat) (i sf : Nat) (pre : List Nat) : List (List Nat) → Nat × List Nat → Nat × List Nat
  | [], a => a
  | l :: ls, a => bst tb i sf pre ls (if sf + TS tb i l < a.1 then (sf + TS tb i l, pre ++ l) else a)
theorem bst_app (tb : Nat → Nat → Nat) (i sf : Nat) (pre : List Nat) : ∀ (l1 l2 : List (List Nat)) (a : Nat × List Nat), bst tb i sf pre (l1 ++ l2) a = bst tb i sf pre l2 (bst tb i sf pre l1 a)
  | [], l2, a => rfl
  | l :: l1, l2, a => by
    show bst tb i sf pre (l1 ++ l2) _ = _
    rw [bst_app tb i sf pre l1 l2]
    rfl
theorem bst_map (tb : Nat → Nat → Nat) (i sf : Nat) (pre : List Nat) (w : Nat) : ∀ (ls : List (List Nat)) (a : Nat × List Nat), bst tb i sf pre (ls.map (fun l => w :: l)) a = bst tb (i + 1) (sf + (if w = 0 then 0 else tb (w - 1) i)) (pre ++ [w]) ls a
  | [], a => rfl
  | l :: ls, a => by
    show bst tb i sf pre (ls.map (fun l => w :: l)) (if sf + TS tb i (w :: l) < a.1 then (sf + TS tb i (w :: l), pre ++ w :: l) else a) = bst tb (i + 1) _ (pre ++ [w]) ls (if _ + TS tb (i + 1) l < a.1 then (_, pre ++ [w] ++ l) else a)
    rw [bst_map tb i sf pre w ls]
    have e : sf + TS tb i (w :: l) = sf + (if w = 0 then 0 else tb (w - 1) i) + TS tb (i + 1) l := by
      show sf + ((if w = 0 then 0 else tb (w - 1) i) + TS tb (i + 1) l) = _
      omega
    rw [e, List.append_assoc]
    rfl
theorem bst_none (tb : Nat → Nat → Nat) (i sf : Nat) (pre : List Nat) : ∀ (ls : List (List Nat)) (a : Nat × List Nat), (∀ l ∈ ls, a.1 ≤ sf + TS tb i l) → bst tb i sf pre ls a = a
  | [], a, _ => rfl
  | l :: ls, a, h => by
    show bst tb i sf pre ls (if sf + TS tb i l < a.1 then _ else a) = a
    rw [if_neg (by have := h l List.mem_cons_self; omega)]
    exact bst_none tb i sf pre ls a (fun x hx => h x (List.mem_cons_of_mem _ hx))
theorem bst_le (tb : Nat → Nat → Nat) (i sf : Nat) (pre : List Nat) : ∀ (ls : List (List Nat)) (a : Nat × List Nat), (bst tb i sf pre ls a).1 ≤ a.1 ∧ ∀ l ∈ ls, (bst tb i sf pre ls a).1 ≤ sf + TS tb i l
  | [], a => ⟨Nat.le_refl _, fun _ h => by cases h⟩
  | l :: ls, a => by
    obtain ⟨h1, h2⟩ := bst_le tb i sf pre ls (if sf + TS tb i l < a.1 then (sf + TS tb i l, pre ++ l) else a)
    refine ⟨?_, fun x hx => ?_⟩
    · show (bst tb i sf pre ls _).1 ≤ _
      by_cases h : sf + TS tb i l < a.1
      · rw [if_pos h] at h1 ⊢; show _ ≤ _; have h1' : _ ≤ sf + TS tb i l := h1; omega
      · rw [if_neg h] at h1 ⊢; exact h1
    · show (bst tb i sf pre ls _).1 ≤ _
      rcases List.mem_cons.mp hx with rfl | hx
      · by_cases h : sf + TS tb i x < a.1
        · rw [if_pos h] at h1 ⊢; exact h1
        · rw [if_neg h] at h1 ⊢; omega
      · exact h2 x hx
theorem CL_length : ∀ (r i : Nat) (tk : Nat → Nat) (l : List Nat), l ∈ CL P ok ct cm r i tk → l.length = r
  | 0, i, tk, l, h => by
    simp [CL] at h
    rw [h]; rfl
  | r + 1, i, tk, l, h => by
    rw [CL] at h
    split at h
    · obtain ⟨x, hx, rfl⟩ := List.mem_map.mp h
      simp [CL_length r (i + 1) tk x hx]
    · obtain ⟨p, hp, hx⟩ := List.mem_flatMap.mp h
      split at hx
      · obtain ⟨x, hx2, rfl⟩ := List.mem_map.mp hx
        simp [CL_length r (i + 1) _ x hx2]
      · cases hx
end
