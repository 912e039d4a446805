/-! Whether there is a casting: pure -/
/-- each open part can have a player of its row, no player two parts that clash -/
def EX (cl : Nat → Nat → Bool) (opn : Nat) (left : Nat → Nat) : Prop := ∃ f : Nat → Nat, (∀ i, opn.testBit i = true → (left i).testBit (f i) = true) ∧ ∀ i j, opn.testBit i = true → opn.testBit j = true → i ≠ j → f i = f j → cl i j = false
def lst2 (cl : Nat → Nat → Bool) (left : Nat → Nat) (i p : Nat) : Nat → Nat := fun j => if cl i j = true then andn (left j) (2 ^ p) else left j
theorem EX_zero (cl : Nat → Nat → Bool) (left : Nat → Nat) : EX cl 0 left := ⟨fun _ => 0, fun i h => by simp at h, fun i j h => by simp at h⟩
theorem EX_step {cl : Nat → Nat → Bool} (hs : ∀ i j, cl i j = cl j i) {opn i : Nat} {left : Nat → Nat} (hi : opn.testBit i = true) : EX cl opn left ↔ ∃ p, (left i).testBit p = true ∧ EX cl (andn opn (2 ^ i)) (lst2 cl left i p) := by
  constructor
  · rintro ⟨f, h1, h2⟩
    refine ⟨f i, h1 i hi, f, fun j hj => ?_, fun j k hj hk hjk he => ?_⟩
    · rw [andn_tb, pow_tb] at hj
      simp at hj
      unfold lst2
      by_cases hc : cl i j = true
      · rw [if_pos hc, andn_tb, h1 j hj.1, pow_tb]
        by_cases he : f i = f j
        · have := h2 i j hi hj.1 hj.2 he
          rw [hc] at this; cases this
        · simp [he]
      · rw [if_neg hc]; exact h1 j hj.1
    · rw [andn_tb] at hj hk
      simp at hj hk
      exact h2 j k hj.1 hk.1 hjk he
  · rintro ⟨p, hp, f, h1, h2⟩
    refine ⟨fun j => if j = i then p else f j, fun j hj => ?_, fun j k hj hk hjk he => ?_⟩
    · by_cases hji : j = i
      · subst hji; simp [hp]
      · have hj' : (andn opn (2 ^ i)).testBit j = true := by rw [andn_tb, hj, pow_tb]; simp [Ne.symm hji]
        have := h1 j hj'
        unfold lst2 at this
        dsimp only
        rw [if_neg hji]
        split at this
        · rw [andn_tb] at this; simp at this; exact this.1
        · exact this
    · have hb : ∀ j, opn.testBit j = true → j ≠ i → (andn opn (2 ^ i)).testBit j = true := fun j hj hji => by rw [andn_tb, hj, pow_tb]; simp [Ne.symm hji]
      have key : ∀ j, opn.testBit j = true → j ≠ i → p = f j → cl i j = false := by
        intro j hj hji hpf
        cases hc : cl i j
        · rfl
        · have := h1 j (hb j hj hji)
          unfold lst2 at this
          rw [if_pos hc, andn_tb, pow_tb, hpf] at this
          simp at this
      dsimp only at he
      by_cases hji : j = i
      · subst hji
        rw [if_pos rfl, if_neg (Ne.symm hjk)] at he
        exact key k hk (Ne.symm hjk) he
      · by_cases hki : k = i
        · subst hki
          rw [if_pos rfl, if_neg hji] at he
          rw [hs]
          exact key j hj hji he.symm
        · rw [if_neg hji, if_neg hki] at he
          exact h2 j k (hb j hj hji) (hb k hk hki) hjk he
theorem EX_cong {cl : Nat → Nat → Bool} {opn : Nat} {l1 l2 : Nat → Nat} (h : ∀ i, opn.testBit i = true → l1 i = l2 i) : EX cl opn l1 ↔ EX cl opn l2 := by
  constructor
  · rintro ⟨f, h1, h2⟩; exact ⟨f, fun i hi => by rw [← h i hi]; exact h1 i hi, h2⟩
  · rintro ⟨f, h1, h2⟩; exact ⟨f, fun i hi => by rw [h i hi]; exact h1 i hi, h2⟩
theorem EX_no {cl : Nat → Nat → Bool} {opn i : Nat} {left : Nat → Nat} (hi : opn.testBit i = true) (h : left i = 0) : ¬ EX cl opn left := by
  rintro ⟨f, h1, -⟩
  have := h1 i hi
  rw [h] at this
  simp at this
/-- the same of the list of castings -/
def VAL (P : Nat) (ok : Nat → Nat → Bool) (ct : Nat → Bool) (cm : Nat → Nat) (r i : Nat) (tk : Nat → Nat) (f : Nat → Nat) : Prop :=
  (∀ j, i ≤ j → j < i + r → ct j = false → f j < P ∧ ok (f j) j = true ∧ tk (f j) &&& cm j = 0) ∧ ∀ j k, i ≤ j → j < k → k < i + r → ct j = false → ct k = false → f j = f k → (cm k).testBit j = false
theorem and_or_zero {a b c : Nat} : (a ||| b) &&& c = 0 ↔ a &&& c = 0 ∧ b &&& c = 0 := by
  constructor
  · intro h
    have key : ∀ i, ((a ||| b) &&& c).testBit i = false := fun i => by rw [h]; simp
    refine ⟨tb_ext (fun i => ?_), tb_ext (fun i => ?_)⟩
    · have := key i
      rw [Nat.testBit_and, Nat.testBit_or] at this
      rw [Nat.testBit_and, Nat.zero_testBit]
      revert this
      cases a.testBit i <;> cases b.testBit i <;> cases c.testBit i <;> simp
    · have := key i
      rw [Nat.testBit_and, Nat.testBit_or] at this
      rw [Nat.testBit_and, Nat.zero_testBit]
      revert this
      cases a.testBit i <;> cases b.testBit i <;> cases c.testBit i <;> simp
  · rintro ⟨h1, h2⟩
    refine tb_ext (fun i => ?_)
    have k1 : (a &&& c).testBit i = false := by rw [h1]; simp
    have k2 : (b &&& c).testBit i = false := by rw [h2]; simp
    rw [Nat.testBit_and] at k1 k2
    rw [Nat.testBit_and, Nat.testBit_or, Nat.zero_testBit]
    revert k1 k2
    cases a.testBit i <;> cases b.testBit i <;> cases c.testBit i <;> simp
theorem pow_and_zero {i c : Nat} : 2 ^ i &&& c = 0 ↔ c.testBit i = false := by
  constructor
  · intro h
    have : (2 ^ i &&& c).testBit i = false := by rw [h]; simp
    rw [Nat.testBit_and, pow_tb] at this
    simpa using this
  · intro h
    refine tb_ext (fun j => ?_)
    rw [Nat.testBit_and, pow_tb, Nat.zero_testBit]
    by_cases hj : i = j
    · subst hj; simp [h]
    · simp [hj]
theorem CL_ex {P : Nat} {ok : Nat → Nat → Bool} {ct : Nat → Bool} {cm : Nat → Nat} : ∀ (r i : Nat) (tk : Nat → Nat), (∃ l, l ∈ CL P ok ct cm r i tk) ↔ ∃ f, VAL P ok ct cm r i tk f
  | 0, i, tk => by
    constructor
    · intro _
      exact ⟨fun _ => 0, fun j h1 h2 => absurd h2 (by omega), fun j k h1 h2 h3 => absurd h3 (by omega)⟩
    · intro _; exact ⟨[], by simp [CL]⟩
  | r + 1, i, tk => by
    cases hc : ct i
    · constructor
      · rintro ⟨l, hl⟩
        rw [CL, if_neg (by rw [hc]; decide)] at hl
        obtain ⟨p, hp, hx⟩ := List.mem_flatMap.mp hl
        split at hx
        · rename_i hf
          obtain ⟨x, hx2, -⟩ := List.mem_map.mp hx
          obtain ⟨f, v1, v2⟩ := (CL_ex r (i + 1) (tset tk p i)).mp ⟨x, hx2⟩
          unfold fre at hf
          simp at hf
          have hpP := List.mem_range.mp hp
          have av : ∀ j, i + 1 ≤ j → j < i + 1 + r → ct j = false → (tk (f j) &&& cm j = 0) ∧ (f j = p → (cm j).testBit i = false) := by
            intro j j1 j2 j3
            have := (v1 j j1 j2 j3).2.2
            unfold tset at this
            by_cases hfp : f j = p
            · rw [if_pos hfp, and_or_zero, pow_and_zero] at this
              exact ⟨this.1, fun _ => this.2⟩
            · rw [if_neg hfp] at this
              exact ⟨this, fun h => absurd h hfp⟩
          refine ⟨fun j => if j = i then p else f j, fun j j1 j2 j3 => ?_, fun j k j1 j2 j3 j4 j5 j6 => ?_⟩
          · by_cases hji : j = i
            · subst hji; simp only [if_pos]; exact ⟨hpP, hf.1, hf.2⟩
            · dsimp only
              rw [if_neg hji]
              have := v1 j (by omega) (by omega) j3
              exact ⟨this.1, this.2.1, (av j (by omega) (by omega) j3).1⟩
          · dsimp only at j6
            by_cases hji : j = i
            · subst hji
              rw [if_pos rfl, if_neg (by omega)] at j6
              exact (av k (by omega) (by omega) j5).2 j6.symm
            · rw [if_neg hji, if_neg (by omega)] at j6
              exact v2 j k (by omega) j2 (by omega) j4 j5 j6
        · cases hx
      · rintro ⟨f, v1, v2⟩
        have h0 := v1 i (Nat.le_refl _) (by omega) hc
        have hf : fre ok cm tk (f i) i = true := by unfold fre; simp [h0.2.1, h0.2.2]
        have : ∃ g, VAL P ok ct cm r (i + 1) (tset tk (f i) i) g := by
          refine ⟨f, fun j j1 j2 j3 => ?_, fun j k j1 j2 j3 j4 j5 j6 => v2 j k (by omega) j2 (by omega) j4 j5 j6⟩
          have hj := v1 j (by omega) (by omega) j3
          refine ⟨hj.1, hj.2.1, ?_⟩
          unfold tset
          by_cases hfj : f j = f i
          · rw [if_pos hfj, and_or_zero, pow_and_zero]
            exact ⟨hj.2.2, v2 i j (Nat.le_refl _) (by omega) (by omega) hc j3 hfj.symm⟩
          · rw [if_neg hfj]; exact hj.2.2
        obtain ⟨x, hx⟩ := (CL_ex r (i + 1) (tset tk (f i) i)).mpr this
        refine ⟨(f i + 1) :: x, ?_⟩
        rw [CL, if_neg (by rw [hc]; decide)]
        refine List.mem_flatMap.mpr ⟨f i, List.mem_range.mpr h0.1, ?_⟩
        rw [if_pos hf]
        exact List.mem_map.mpr ⟨x, hx, rfl⟩
    · constructor
      · rintro ⟨l, hl⟩
        rw [CL, if_pos hc] at hl
        obtain ⟨x, hx, -⟩ := List.mem_map.mp hl
        obtain ⟨f, v1, v2⟩ := (CL_ex r (i + 1) tk).mp ⟨x, hx⟩
        refine ⟨f, fun j j1 j2 j3 => ?_, fun j k j1 j2 j3 j4 j5 j6 => ?_⟩
        · have : j ≠ i := fun h => by rw [h, hc] at j3; cases j3
          exact v1 j (by omega) (by omega) j3
        · have : j ≠ i := fun h => by rw [h, hc] at j4; cases j4
          exact v2 j k (by omega) j2 (by omega) j4 j5 j6
      · rintro ⟨f, v1, v2⟩
        obtain ⟨x, hx⟩ := (CL_ex r (i + 1) tk).mpr ⟨f, fun j j1 j2 j3 => v1 j (by omega) (by omega) j3, fun j k j1 j2 j3 j4 j5 j6 => v2 j k (by omega) j2 (by omega) j4 j5 j6⟩
        refine ⟨0 :: x, ?_⟩
        rw [CL, if_pos hc]
        exact List.mem_map.mpr ⟨x, hx, rfl⟩
theorem clsL_sym (K : KT) (i j : Nat) : ∀ (r s last since : Nat), last ≤ 2 → clsL K i j r s last since = clsL K j i r s (if last = 1 then 2 else if last = 2 then 1 else 0) since
  | 0, _, _, _, _ => rfl
  | r + 1, s, last, since, hl => by
    unfold clsL
    have ih := clsL_sym K i j r (s + 1)
    cases ha : (K 9 s).testBit i <;> cases hb : (K 9 s).testBit j
    · simp only [and_self, if_true]
      exact ih last _ hl
    · have h1 := ih 2 0 (by omega)
      rcases (show last = 0 ∨ last = 1 ∨ last = 2 by omega) with rfl | rfl | rfl <;> simp_all
    · have h1 := ih 1 0 (by omega)
      rcases (show last = 0 ∨ last = 1 ∨ last = 2 by omega) with rfl | rfl | rfl <;> simp_all
    · simp
theorem cls_sym (K : KT) (i j : Nat) : cls K i j = cls K j i := clsL_sym K i j (K 0 2) 0 0 0 (by omega)
def clf (K : KT) (i j : Nat) : Bool := decide (i < K 0 1) && (decide (j < K 0 1) && (decide (j ≠ i) && cls K i j))
theorem clf_sym (K : KT) (i j : Nat) : clf K i j = clf K j i := by
  unfold clf
  rw [cls_sym K i j]
  by_cases h1 : i < K 0 1 <;> by_cases h2 : j < K 0 1 <;> by_cases h3 : i = j <;> simp [h1, h2, h3, Ne.symm, eq_comm]
theorem clashM_tb (K : KT) {i : Nat} (hi : i < K 0 1) (j : Nat) : (clashM K i).testBit j = clf K i j := by
  unfold clashM clf
  rw [mk_tb]
  simp [hi]
/-- the parts that are not cut -/
def opn0 (Q cut : Nat) : Nat := andn (2 ^ Q - 1) cut
theorem opn0_tb (Q cut i : Nat) : (opn0 Q cut).testBit i = (decide (i < Q) && !cut.testBit i) := by
  unfold opn0
  rw [andn_tb, Nat.testBit_two_pow_sub_one]
def lft0 (K : KT) (off : Nat) : Nat → Nat := fun i => andn (ableM K i) off
theorem lft0_tb (K : KT) (off i p : Nat) : (lft0 K off i).testBit p = (decide (p < K 0 0) && okf K off p i) := by
  unfold lft0 ableM okf
  rw [andn_tb, mk_tb]
  cases decide (p < K 0 0) <;> cases may K p i <;> rfl
/-- it can be met: there is a casting -/
def MET (K : KT) (off cut : Nat) : Prop := ∃ l, l ∈ CL (K 0 0) (okf K off) (ctf cut) (clashM K) (K 0 1) 0 (fun _ => 0)
theorem MET_iff (K : KT) (off cut : Nat) : MET K off cut ↔ EX (clf K) (opn0 (K 0 1) cut) (lft0 K off) := by
  unfold MET
  rw [CL_ex]
  constructor
  · rintro ⟨f, v1, v2⟩
    refine ⟨f, fun i hi => ?_, fun i j hi hj hij he => ?_⟩
    · rw [opn0_tb] at hi
      simp at hi
      have := v1 i (Nat.zero_le _) (by omega) hi.2
      rw [lft0_tb]; simp [this.1, this.2.1]
    · rw [opn0_tb] at hi hj
      simp at hi hj
      rcases Nat.lt_or_gt_of_ne hij with h | h
      · have := v2 i j (Nat.zero_le _) h (by omega) hi.2 hj.2 he
        rw [clashM_tb K hj.1] at this
        rw [clf_sym]; exact this
      · have := v2 j i (Nat.zero_le _) h (by omega) hj.2 hi.2 he.symm
        rw [clashM_tb K hi.1] at this
        exact this
  · rintro ⟨f, h1, h2⟩
    have hb : ∀ j, j < K 0 1 → ctf cut j = false → (opn0 (K 0 1) cut).testBit j = true := fun j hj hc => by
      rw [opn0_tb]
      unfold ctf at hc
      simp [hj, hc]
    refine ⟨f, fun j _ j2 j3 => ?_, fun j k _ j2 j3 j4 j5 j6 => ?_⟩
    · have := h1 j (hb j (by omega) j3)
      rw [lft0_tb] at this
      simp at this
      exact ⟨this.1, this.2, by simp⟩
    · rw [clashM_tb K (by omega), clf_sym]
      exact h2 j k (hb j (by omega) j4) (hb k (by omega) j5) (by omega) j6
