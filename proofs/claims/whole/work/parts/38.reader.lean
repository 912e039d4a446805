/-! The text's items read: pure, and the Reader -/
def ndr (t : Nat → Nat) (len : Nat) : Nat → Nat → Nat
  | 0, k => k
  | f + 1, k => if k < len ∧ 48 ≤ t k ∧ t k ≤ 57 then ndr t len f (k + 1) else k
def nvr (t : Nat → Nat) : Nat → Nat → Nat → Nat
  | 0, _, v => v
  | n + 1, k, v => nvr t n (k + 1) (v * 10 + t k - 48)
def nval (t : Nat → Nat) (a b : Nat) : Nat := nvr t (b - a) a 0
def eoi (t : Nat → Nat) (len : Nat) : Nat → Nat → Option (Nat × List Nat)
  | 0, _ => none
  | f + 1, k =>
    if ndr t len 3 k = k ∨ len ≤ ndr t len 3 k then none
    else if t (ndr t len 3 k) = 59 then some (ndr t len 3 k + 1, [nval t k (ndr t len 3 k)])
    else if t (ndr t len 3 k) = 44 then (eoi t len f (ndr t len 3 k + 1)).map (fun q => (q.1, nval t k (ndr t len 3 k) :: q.2))
    else none
def K0 : KT := fun f j => if f = 0 then (if j = 5 then 1 else if j = 6 then 10 else if j = 7 then 100 else if j = 8 then 5 else 0) else 0
def rdF (t : Nat → Nat) (len : Nat) : Nat → KT → Nat → Option Nat × KT
  | 0, K, k => (some k, K)
  | f + 1, K, k =>
    if len ≤ k then (none, K)
    else match eoi t len 4 (k + 1) with
      | none => (some k, K)
      | some (p, l) => match takeK K (t k) (fun q => l.getD q 0) l.length with
        | none => (some k, K)
        | some K' => rdF t len f K' p
def flt (r : Option Nat) : Int32 := match r with
  | none => -4
  | some a => nI a
theorem ndr_in (t : Nat → Nat) (len : Nat) : ∀ f k, k ≤ ndr t len f k ∧ ndr t len f k ≤ k + f ∧ ∀ j, k ≤ j → j < ndr t len f k → j < len ∧ 48 ≤ t j ∧ t j ≤ 57
  | 0, k => ⟨Nat.le_refl _, Nat.le_refl _, fun j h1 h2 => absurd h2 (by show ¬ j < k; omega)⟩
  | f + 1, k => by
    unfold ndr
    by_cases h : k < len ∧ 48 ≤ t k ∧ t k ≤ 57
    · rw [if_pos h]
      obtain ⟨h1, h2, h3⟩ := ndr_in t len f (k + 1)
      refine ⟨by omega, by omega, fun j hj1 hj2 => ?_⟩
      by_cases he : j = k
      · subst he; exact h
      · exact h3 j (by omega) hj2
    · rw [if_neg h]
      exact ⟨Nat.le_refl _, by omega, fun j h1 h2 => absurd h2 (by omega)⟩
theorem nvr_le (t : Nat → Nat) : ∀ n k v m, (∀ j, k ≤ j → j < k + n → 48 ≤ t j ∧ t j ≤ 57) → v < 10 ^ m → nvr t n k v < 10 ^ (m + n)
  | 0, k, v, m, _, hv => by simpa [nvr] using hv
  | n + 1, k, v, m, h, hv => by
    unfold nvr
    have hk := h k (Nat.le_refl _) (by omega)
    have := nvr_le t n (k + 1) (v * 10 + t k - 48) (m + 1) (fun j h1 h2 => h j (by omega) (by omega)) (by rw [Nat.pow_succ]; omega)
    rwa [show m + (n + 1) = m + 1 + n by omega]
theorem nval_le {t : Nat → Nat} {a b : Nat} (hab : b ≤ a + 3) (h : ∀ j, a ≤ j → j < b → 48 ≤ t j ∧ t j ≤ 57) : nval t a b ≤ 999 := by
  have h1 := nvr_le t (b - a) a 0 0 (fun j h1 h2 => h j h1 (by omega)) (by decide)
  have h2 : 10 ^ (0 + (b - a)) ≤ 10 ^ 3 := Nat.pow_le_pow_right (by decide) (by omega)
  unfold nval
  omega
theorem eoi_ok (t : Nat → Nat) (len : Nat) : ∀ f k p l, eoi t len f k = some (p, l) → k < p ∧ p ≤ len ∧ 1 ≤ l.length ∧ l.length ≤ f ∧ ∀ q, q < l.length → l.getD q 0 ≤ 999
  | 0, k, p, l, h => by simp [eoi] at h
  | f + 1, k, p, l, h => by
    unfold eoi at h
    obtain ⟨n1, n2, n3⟩ := ndr_in t len 3 k
    have nv : nval t k (ndr t len 3 k) ≤ 999 := nval_le n2 (fun j h1 h2 => (n3 j h1 h2).2)
    by_cases h1 : ndr t len 3 k = k ∨ len ≤ ndr t len 3 k
    · rw [if_pos h1] at h; cases h
    · rw [if_neg h1] at h
      by_cases h2 : t (ndr t len 3 k) = 59
      · rw [if_pos h2] at h
        cases h
        refine ⟨by omega, by omega, by simp, by simp, fun q hq => ?_⟩
        have : q = 0 := by simpa using hq
        subst this
        exact nv
      · rw [if_neg h2] at h
        by_cases h3 : t (ndr t len 3 k) = 44
        · rw [if_pos h3] at h
          cases he : eoi t len f (ndr t len 3 k + 1) with
          | none => rw [he] at h; cases h
          | some z =>
            rw [he] at h
            obtain ⟨p', l'⟩ := z
            have h9 := Option.some.inj h
            obtain ⟨rfl, rfl⟩ : p' = p ∧ nval t k (ndr t len 3 k) :: l' = l := ⟨congrArg Prod.fst h9, congrArg Prod.snd h9⟩
            obtain ⟨g1, g2, g3, g4, g5⟩ := eoi_ok t len f _ p' l' he
            refine ⟨by omega, g2, by simp, by simpa using g4, fun q hq => ?_⟩
            cases q with
            | zero => exact nv
            | succ q => exact g5 q (by simpa using hq)
        · rw [if_neg h3] at h; cases h
def TX (I : TI) (t : Nat → Nat) (len : Nat) : Prop := len ≤ 400 ∧ ∀ j, j < len → I 1 j = sg (t j) ∧ t j < 256
theorem sg_ge48 : ∀ u, u < 256 → (¬ sg u < 48 ∧ ¬ 57 < sg u ↔ 48 ≤ u ∧ u ≤ 57) := by decide +kernel
theorem sg_lt48 : ∀ u, u < 256 → (sg u < 48 ∨ 57 < sg u ↔ ¬ (48 ≤ u ∧ u ≤ 57)) := by decide +kernel
theorem sg_59 : ∀ u, u < 256 → (sg u = 59 ↔ u = 59) := by decide +kernel
theorem sg_44 : ∀ u, u < 256 → (sg u = 44 ↔ u = 44) := by decide +kernel
section
variable {E : En} {I : TI} {J : TJ} {co dr : Nat} {cc a1 a2 : Option Nat} {Post : PT} {c : Nat} {K : KT} {t : Nat → Nat} {len : Nat}
theorem sp_endOfFigures (hT : TX I t len) {st : Nat} (hst : st ≤ 1000) (Kk : Post (some (.int (nI (ndr t len 3 st)))) NC I J (RR co dr cc a1 a2)) : Cal E 1 M_X6_endOfFigures [.ref 1, .int (nI len), .int (nI st)] NC I J (RR co dr cc a1 a2) Post := by
  have hl := hT.1
  have e3 : (3 : Int32) = nI 3 := rfl
  refine Cal_of kn_X6_endOfFigures rfl (Nat.le_of_ble_eq_true rfl) ?_
  refine V_iload_n dX6_endOfFigures_0 rfl rfl (V_istore_3 dX6_endOfFigures_1 (by decide) rfl ?_)
  have key : ∀ f k, k + f = st + 3 → Post (some (.int (nI (ndr t len f k)))) NC I J (RR co dr cc a1 a2) → V E 1 M_X6_endOfFigures Post 2 [some (.ref 1), some (.int (nI len)), some (.int (nI st)), some (.int (nI k))] [] NC 0 0 I J (RR co dr cc a1 a2) := by
    intro f
    induction f with
    | zero =>
      intro k hk hp
      by_cases h1 : k < len
      · refine V_iload_n dX6_endOfFigures_2 rfl rfl (V_iload_n dX6_endOfFigures_3 rfl rfl ?_)
        refine V_icmp_ge_f (tgt := 36) dX6_endOfFigures_4 (by decide) (nI_ge h1 (by omega)) ?_
        refine V_iload_n dX6_endOfFigures_7 rfl rfl (V_iload_n dX6_endOfFigures_8 rfl rfl (V_iconst (v := 3) dX6_endOfFigures_9 (by decide) (V_iadd dX6_endOfFigures_10 ?_)))
        refine V_icmp_ge_t (tgt := 36) dX6_endOfFigures_11 (by decide) (by rw [e3, nI_add]; exact nI_le (by omega) (by omega)) ?_
        refine V_iload_n dX6_endOfFigures_36 rfl rfl ?_
        refine V_ireturn dX6_endOfFigures_37 rfl rfl rfl (by decide) (by decide) ?_
        exact hp
      · refine V_iload_n dX6_endOfFigures_2 rfl rfl (V_iload_n dX6_endOfFigures_3 rfl rfl ?_)
        refine V_icmp_ge_t (tgt := 36) dX6_endOfFigures_4 (by decide) (nI_le (by omega) (by omega)) ?_
        refine V_iload_n dX6_endOfFigures_36 rfl rfl ?_
        refine V_ireturn dX6_endOfFigures_37 rfl rfl rfl (by decide) (by decide) ?_
        exact hp
    | succ f ih =>
      intro k hk hp
      unfold ndr at hp
      by_cases h1 : k < len
      · obtain ⟨g1, g2⟩ := hT.2 k h1
        by_cases h2 : 48 ≤ t k ∧ t k ≤ 57
        · have h3 := (sg_ge48 _ g2).mpr h2
          refine V_iload_n dX6_endOfFigures_2 rfl rfl (V_iload_n dX6_endOfFigures_3 rfl rfl ?_)
          refine V_icmp_ge_f (tgt := 36) dX6_endOfFigures_4 (by decide) (nI_ge h1 (by omega)) ?_
          refine V_iload_n dX6_endOfFigures_7 rfl rfl (V_iload_n dX6_endOfFigures_8 rfl rfl (V_iconst (v := 3) dX6_endOfFigures_9 (by decide) (V_iadd dX6_endOfFigures_10 ?_)))
          refine V_icmp_ge_f (tgt := 36) dX6_endOfFigures_11 (by decide) (by rw [e3, nI_add]; exact nI_ge (by omega) (by omega)) ?_
          refine V_aload_n dX6_endOfFigures_14 rfl rfl (V_iload_n dX6_endOfFigures_15 rfl rfl ?_)
          refine V_bal dX6_endOfFigures_16 (by first | assumption | exact ⟨by decide, rfl⟩) ⟨rfl, by omega⟩ ?_
          refine V_bipush (v := 48) dX6_endOfFigures_17 (by decide) ?_
          refine V_icmp_lt_f (tgt := 36) dX6_endOfFigures_19 (by decide) (by rw [g1]; exact h3.1) ?_
          refine V_aload_n dX6_endOfFigures_22 rfl rfl (V_iload_n dX6_endOfFigures_23 rfl rfl ?_)
          refine V_bal dX6_endOfFigures_24 (by first | assumption | exact ⟨by decide, rfl⟩) ⟨rfl, by omega⟩ ?_
          refine V_bipush (v := 57) dX6_endOfFigures_25 (by decide) ?_
          refine V_icmp_gt_f (tgt := 36) dX6_endOfFigures_27 (by decide) (by rw [g1]; exact h3.2) ?_
          refine V_iinc_3 (w := 1) dX6_endOfFigures_30 (by decide) (by decide) rfl (V_goto (tgt := 2) dX6_endOfFigures_33 (by decide) ?_)
          rw [if_pos ⟨h1, h2.1, h2.2⟩] at hp
          rw [nI_1]
          exact ih (k + 1) (by omega) hp
        · rw [if_neg (fun z => h2 z.2)] at hp
          by_cases h4 : sg (t k) < 48
          · refine V_iload_n dX6_endOfFigures_2 rfl rfl (V_iload_n dX6_endOfFigures_3 rfl rfl ?_)
            refine V_icmp_ge_f (tgt := 36) dX6_endOfFigures_4 (by decide) (nI_ge h1 (by omega)) ?_
            refine V_iload_n dX6_endOfFigures_7 rfl rfl (V_iload_n dX6_endOfFigures_8 rfl rfl (V_iconst (v := 3) dX6_endOfFigures_9 (by decide) (V_iadd dX6_endOfFigures_10 ?_)))
            refine V_icmp_ge_f (tgt := 36) dX6_endOfFigures_11 (by decide) (by rw [e3, nI_add]; exact nI_ge (by omega) (by omega)) ?_
            refine V_aload_n dX6_endOfFigures_14 rfl rfl (V_iload_n dX6_endOfFigures_15 rfl rfl ?_)
            refine V_bal dX6_endOfFigures_16 (by first | assumption | exact ⟨by decide, rfl⟩) ⟨rfl, by omega⟩ ?_
            refine V_bipush (v := 48) dX6_endOfFigures_17 (by decide) ?_
            refine V_icmp_lt_t (tgt := 36) dX6_endOfFigures_19 (by decide) (by rw [g1]; exact h4) ?_
            refine V_iload_n dX6_endOfFigures_36 rfl rfl ?_
            refine V_ireturn dX6_endOfFigures_37 rfl rfl rfl (by decide) (by decide) ?_
            exact hp
          · have h5 := ((sg_lt48 _ g2).mpr h2).resolve_left h4
            refine V_iload_n dX6_endOfFigures_2 rfl rfl (V_iload_n dX6_endOfFigures_3 rfl rfl ?_)
            refine V_icmp_ge_f (tgt := 36) dX6_endOfFigures_4 (by decide) (nI_ge h1 (by omega)) ?_
            refine V_iload_n dX6_endOfFigures_7 rfl rfl (V_iload_n dX6_endOfFigures_8 rfl rfl (V_iconst (v := 3) dX6_endOfFigures_9 (by decide) (V_iadd dX6_endOfFigures_10 ?_)))
            refine V_icmp_ge_f (tgt := 36) dX6_endOfFigures_11 (by decide) (by rw [e3, nI_add]; exact nI_ge (by omega) (by omega)) ?_
            refine V_aload_n dX6_endOfFigures_14 rfl rfl (V_iload_n dX6_endOfFigures_15 rfl rfl ?_)
            refine V_bal dX6_endOfFigures_16 (by first | assumption | exact ⟨by decide, rfl⟩) ⟨rfl, by omega⟩ ?_
            refine V_bipush (v := 48) dX6_endOfFigures_17 (by decide) ?_
            refine V_icmp_lt_f (tgt := 36) dX6_endOfFigures_19 (by decide) (by rw [g1]; exact h4) ?_
            refine V_aload_n dX6_endOfFigures_22 rfl rfl (V_iload_n dX6_endOfFigures_23 rfl rfl ?_)
            refine V_bal dX6_endOfFigures_24 (by first | assumption | exact ⟨by decide, rfl⟩) ⟨rfl, by omega⟩ ?_
            refine V_bipush (v := 57) dX6_endOfFigures_25 (by decide) ?_
            refine V_icmp_gt_t (tgt := 36) dX6_endOfFigures_27 (by decide) (by rw [g1]; exact h5) ?_
            refine V_iload_n dX6_endOfFigures_36 rfl rfl ?_
            refine V_ireturn dX6_endOfFigures_37 rfl rfl rfl (by decide) (by decide) ?_
            exact hp
      · rw [if_neg (fun z => h1 z.1)] at hp
        refine V_iload_n dX6_endOfFigures_2 rfl rfl (V_iload_n dX6_endOfFigures_3 rfl rfl ?_)
        refine V_icmp_ge_t (tgt := 36) dX6_endOfFigures_4 (by decide) (nI_le (by omega) (by omega)) ?_
        refine V_iload_n dX6_endOfFigures_36 rfl rfl ?_
        refine V_ireturn dX6_endOfFigures_37 rfl rfl rfl (by decide) (by decide) ?_
        exact hp
  exact key 3 st rfl Kk
theorem sp_numberOf (hT : TX I t len) {a b : Nat} (hab : a ≤ b) (hb : b ≤ len) (h3 : b ≤ a + 3) (hdg : ∀ j, a ≤ j → j < b → 48 ≤ t j ∧ t j ≤ 57) (Kk : Post (some (.int (nI (nval t a b)))) NC I J (RR co dr cc a1 a2)) : Cal E 1 M_X6_numberOf [.ref 1, .int (nI a), .int (nI b)] NC I J (RR co dr cc a1 a2) Post := by
  have hl := hT.1
  refine Cal_of kn_X6_numberOf rfl (Nat.le_of_ble_eq_true rfl) ?_
  refine V_iconst (v := 0) dX6_numberOf_0 (by decide) (V_istore_3 dX6_numberOf_1 (by decide) rfl (V_iload_n dX6_numberOf_2 rfl rfl (V_istore_4 dX6_numberOf_3 (by decide) rfl ?_)))
  have key : ∀ r k v, k + r = b → a ≤ k → Post (some (.int (nI (nvr t r k v)))) NC I J (RR co dr cc a1 a2) → V E 1 M_X6_numberOf Post 5 [some (.ref 1), some (.int (nI a)), some (.int (nI b)), some (.int (nI v)), some (.int (nI k))] [] NC 0 0 I J (RR co dr cc a1 a2) := by
    intro r
    induction r with
    | zero =>
      intro k v hk _ hp
      refine V_iload dX6_numberOf_5 rfl (V_iload_n dX6_numberOf_7 rfl rfl ?_)
      refine V_icmp_ge_t (tgt := 30) dX6_numberOf_8 (by decide) (nI_le (by omega) (by omega)) ?_
      refine V_iload_n dX6_numberOf_30 rfl rfl ?_
      refine V_ireturn dX6_numberOf_31 rfl rfl rfl (by decide) (by decide) ?_
      exact hp
    | succ r ih =>
      intro k v hk hak hp
      obtain ⟨g1, g2⟩ := hT.2 k (by omega)
      have h2 := hdg k hak (by omega)
      refine V_iload dX6_numberOf_5 rfl (V_iload_n dX6_numberOf_7 rfl rfl ?_)
      refine V_icmp_ge_f (tgt := 30) dX6_numberOf_8 (by decide) (nI_ge (by omega) (by omega)) ?_
      refine V_iload_n dX6_numberOf_11 rfl rfl (V_bipush (v := 10) dX6_numberOf_12 (by decide) (V_imul dX6_numberOf_14 (V_aload_n dX6_numberOf_15 rfl rfl (V_iload dX6_numberOf_16 rfl ?_))))
      refine V_bal dX6_numberOf_18 (by first | assumption | exact ⟨by decide, rfl⟩) ⟨rfl, by omega⟩ ?_
      refine V_iadd dX6_numberOf_19 (V_bipush (v := 48) dX6_numberOf_20 (by decide) (V_isub dX6_numberOf_22 (V_istore_3 dX6_numberOf_23 (by decide) rfl (V_iinc_4 (w := 1) dX6_numberOf_24 (by decide) (by decide) rfl (V_goto (tgt := 5) dX6_numberOf_27 (by decide) ?_)))))
      rw [g1, sg_lo _ (by omega), show (10 : Int32) = nI 10 from rfl, show (48 : Int32) = nI 48 from rfl, pk_mul, nI_add, pk_sub (by omega), nI_1]
      exact ih (k + 1) _ (by omega) (by omega) hp
  exact key (b - a) a 0 (by omega) (Nat.le_refl _) Kk
theorem sp_endOfItem (hT : TX I t len) {st : Nat} (hst : st < len) (Kn : eoi t len 4 (st + 1) = none → ∀ I', (∀ a b, a ≠ 2 → a ≠ 3 → I' a b = I a b) → Post (some (.int 0)) NC I' J (RR co dr cc a1 a2)) (Ks : ∀ p l, eoi t len 4 (st + 1) = some (p, l) → ∀ I', (∀ a b, a ≠ 2 → a ≠ 3 → I' a b = I a b) → (∀ q, q < l.length → I' 3 q = nI (l.getD q 0)) → I' 2 1 = nI l.length → Post (some (.int (nI p))) NC I' J (RR co dr cc a1 a2)) : Cal E 2 M_X6_endOfItem [.ref 2, .ref 1, .int (nI len), .int (nI st)] NC I J (RR co dr cc a1 a2) Post := by
  have hl := hT.1
  have e4 : (4 : Int32) = nI 4 := rfl
  refine Cal_of kn_X6_endOfItem rfl (Nat.le_of_ble_eq_true rfl) ?_
  refine V_iload_n dX6_endOfItem_0 rfl rfl (V_iconst (v := 1) dX6_endOfItem_1 (by decide) (V_iadd dX6_endOfItem_2 (V_istore_4 dX6_endOfItem_3 (by decide) rfl (V_iconst (v := 0) dX6_endOfItem_5 (by decide) (V_istore_5 dX6_endOfItem_6 (by decide) rfl ?_)))))
  have key : ∀ f k (pre : List Nat) I', pre.length + f = 4 → k ≤ len → (∀ a b, a ≠ 2 → a ≠ 3 → I' a b = I a b) → (∀ q, q < pre.length → I' 3 q = nI (pre.getD q 0)) → (eoi t len f k = none → ∀ I', (∀ a b, a ≠ 2 → a ≠ 3 → I' a b = I a b) → Post (some (.int 0)) NC I' J (RR co dr cc a1 a2)) → (∀ p l, eoi t len f k = some (p, l) → ∀ I', (∀ a b, a ≠ 2 → a ≠ 3 → I' a b = I a b) → (∀ q, q < (pre ++ l).length → I' 3 q = nI ((pre ++ l).getD q 0)) → I' 2 1 = nI (pre ++ l).length → Post (some (.int (nI p))) NC I' J (RR co dr cc a1 a2)) → V E 2 M_X6_endOfItem Post 8 [some (.ref 2), some (.ref 1), some (.int (nI len)), some (.int (nI st)), some (.int (nI k)), some (.int (nI pre.length)), none] [] NC 0 0 I' J (RR co dr cc a1 a2) := by
    intro f
    induction f with
    | zero =>
      intro k pre I' hf hk hI _ hn _
      refine V_iload dX6_endOfItem_8 rfl (V_aload_n dX6_endOfItem_10 rfl rfl ?_)
      refine V_getR dX6_endOfItem_11 fl_X6_9 (by first | assumption | exact ⟨by decide, rfl⟩) (by first | assumption | rfl) ?_
      refine V_alen dX6_endOfItem_14 (by first | assumption | exact ⟨by decide, rfl⟩) rfl ?_
      refine V_icmp_ge_t (tgt := 100) dX6_endOfItem_15 (by decide) (nI_le (by omega) (by omega)) ?_
      refine V_iconst (v := 0) dX6_endOfItem_100 (by decide) ?_
      refine V_ireturn dX6_endOfItem_101 rfl rfl rfl (by decide) (by decide) ?_
      exact hn rfl I' hI
    | succ f ih =>
      intro k pre I' hf hk hI hpre hn hs
      have hT' : TX I' t len := ⟨hT.1, fun j hj => by rw [hI 1 j (by decide) (by decide)]; exact hT.2 j hj⟩
      obtain ⟨n1, n2, n3⟩ := ndr_in t len 3 k
      unfold eoi at hn hs
      refine V_iload dX6_endOfItem_8 rfl (V_aload_n dX6_endOfItem_10 rfl rfl ?_)
      refine V_getR dX6_endOfItem_11 fl_X6_9 (by first | assumption | exact ⟨by decide, rfl⟩) (by first | assumption | rfl) ?_
      refine V_alen dX6_endOfItem_14 (by first | assumption | exact ⟨by decide, rfl⟩) rfl ?_
      refine V_icmp_ge_f (tgt := 100) dX6_endOfItem_15 (by decide) (nI_ge (show pre.length < 4 by omega) (by decide)) ?_
      refine V_aload_n dX6_endOfItem_18 rfl rfl (V_iload_n dX6_endOfItem_19 rfl rfl (V_iload dX6_endOfItem_20 rfl ?_))
      refine V_cS3i (M' := M_X6_endOfFigures) (d' := 1) dX6_endOfItem_22 (Or.inl ml_X6_32) kb_X6_endOfFigures (by first | decide | omega) (by simp [Value.category]) ⟨by decide, by decide⟩ ?_
      refine sp_endOfFigures hT' (by omega) ⟨_, rfl, ?_⟩
      by_cases h1 : ndr t len 3 k = k
      · refine V_istore_6 dX6_endOfItem_25 (by decide) rfl (V_iload dX6_endOfItem_27 rfl (V_iload dX6_endOfItem_29 rfl ?_))
        refine V_icmp_eq_t (tgt := 40) dX6_endOfItem_31 (by decide) (by rw [h1]) ?_
        refine V_iconst (v := 0) dX6_endOfItem_40 (by decide) ?_
        refine V_ireturn dX6_endOfItem_41 rfl rfl rfl (by decide) (by decide) ?_
        exact hn (if_pos (Or.inl h1)) I' hI
      · by_cases h2 : len ≤ ndr t len 3 k
        · refine V_istore_6 dX6_endOfItem_25 (by decide) rfl (V_iload dX6_endOfItem_27 rfl (V_iload dX6_endOfItem_29 rfl ?_))
          refine V_icmp_eq_f (tgt := 40) dX6_endOfItem_31 (by decide) (fun z => h1 ((nI_eq (by omega) (by omega)).mp z)) ?_
          refine V_iload dX6_endOfItem_34 rfl (V_iload_n dX6_endOfItem_36 rfl rfl ?_)
          refine V_icmp_lt_f (tgt := 42) dX6_endOfItem_37 (by decide) (by rw [lit_lt (by omega) (by omega)]; omega) ?_
          refine V_iconst (v := 0) dX6_endOfItem_40 (by decide) ?_
          refine V_ireturn dX6_endOfItem_41 rfl rfl rfl (by decide) (by decide) ?_
          exact hn (if_pos (Or.inr h2)) I' hI
        · have h12 : ¬ (ndr t len 3 k = k ∨ len ≤ ndr t len 3 k) := by omega
          rw [if_neg h12] at hn hs
          refine V_istore_6 dX6_endOfItem_25 (by decide) rfl (V_iload dX6_endOfItem_27 rfl (V_iload dX6_endOfItem_29 rfl ?_))
          refine V_icmp_eq_f (tgt := 40) dX6_endOfItem_31 (by decide) (fun z => h1 ((nI_eq (by omega) (by omega)).mp z)) ?_
          refine V_iload dX6_endOfItem_34 rfl (V_iload_n dX6_endOfItem_36 rfl rfl ?_)
          refine V_icmp_lt_t (tgt := 42) dX6_endOfItem_37 (by decide) (by rw [lit_lt (by omega) (by omega)]; omega) ?_
          refine V_aload_n dX6_endOfItem_42 rfl rfl ?_
          refine V_getR dX6_endOfItem_43 fl_X6_9 (by first | assumption | exact ⟨by decide, rfl⟩) (by first | assumption | rfl) ?_
          refine V_iload dX6_endOfItem_46 rfl (V_aload_n dX6_endOfItem_48 rfl rfl (V_iload dX6_endOfItem_49 rfl (V_iload dX6_endOfItem_51 rfl ?_)))
          refine V_cS3i (M' := M_X6_numberOf) (d' := 1) dX6_endOfItem_53 (Or.inl ml_X6_35) kb_X6_numberOf (by first | decide | omega) (by simp [Value.category]) ⟨by decide, by decide⟩ ?_
          refine sp_numberOf hT' n1 (by omega) n2 (fun j a b => (n3 j a b).2) ⟨_, rfl, ?_⟩
          have hlt : ndr t len 3 k < len := by omega
          obtain ⟨g1, g2⟩ := hT.2 _ hlt
          have hI3 : ∀ a b, a ≠ 2 → a ≠ 3 → up2 I' 3 pre.length (nI (nval t k (ndr t len 3 k))) a b = I a b := fun a b h1 h2 => by rw [u2n (Or.inl h2)]; exact hI a b h1 h2
          have hpre3 : ∀ (l : List Nat) (I9 : TI), (∀ q, q < pre.length + 1 → I9 3 q = up2 I' 3 pre.length (nI (nval t k (ndr t len 3 k))) 3 q) → ∀ q, q < pre.length + 1 → I9 3 q = nI ((pre ++ nval t k (ndr t len 3 k) :: l).getD q 0) := by
            intro l I9 h9 q hq
            rw [h9 q hq]
            by_cases he : q = pre.length
            · subst he
              rw [u2e]
              simp
            · rw [u2n (Or.inr he), hpre q (by omega), List.getD_eq_getElem?_getD, List.getD_eq_getElem?_getD, List.getElem?_append_left (by omega)]
          by_cases h4 : t (ndr t len 3 k) = 59
          · rw [if_pos h4] at hs
            refine V_ias dX6_endOfItem_56 (by first | assumption | exact ⟨by decide, rfl⟩) ⟨rfl, by omega⟩ ?_
            refine V_iload dX6_endOfItem_57 rfl (V_iconst (v := 1) dX6_endOfItem_59 (by decide) (V_iadd dX6_endOfItem_60 (V_istore_4 dX6_endOfItem_61 (by decide) rfl (V_aload_n dX6_endOfItem_63 rfl rfl (V_iload dX6_endOfItem_64 rfl ?_)))))
            refine V_bal dX6_endOfItem_66 (by first | assumption | exact ⟨by decide, rfl⟩) ⟨rfl, by omega⟩ ?_
            refine V_bipush (v := 59) dX6_endOfItem_67 (by decide) ?_
            refine V_icmp_ne_f (tgt := 83) dX6_endOfItem_69 (by decide) (by rw [hI3 _ _ (by decide) (by decide), g1]; exact (sg_59 _ g2).mpr h4) ?_
            refine V_aload_n dX6_endOfItem_72 rfl rfl (V_iload dX6_endOfItem_73 rfl (V_iconst (v := 1) dX6_endOfItem_75 (by decide) (V_iadd dX6_endOfItem_76 ?_)))
            refine V_putI dX6_endOfItem_77 fl_X6_24 (by first | assumption | exact ⟨by decide, rfl⟩) ?_
            refine V_iload dX6_endOfItem_80 rfl ?_
            refine V_ireturn dX6_endOfItem_82 rfl rfl rfl (by decide) (by decide) ?_
            rw [nI_1, nI_1]
            refine hs _ _ rfl _ (fun a b h1 h2 => by rw [u2n (Or.inl h1)]; exact hI3 a b h1 h2) (fun q hq => ?_) ?_
            · have hq' : q < pre.length + 1 := by simpa using hq
              exact hpre3 [] _ (fun q hq => by rw [u2n (Or.inl (by decide))]) q hq'
            · rw [u2e]; simp
          · rw [if_neg h4] at hn hs
            have h59 : ¬ sg (t (ndr t len 3 k)) = 59 := fun z => h4 ((sg_59 _ g2).mp z)
            by_cases h5 : t (ndr t len 3 k) = 44
            · rw [if_pos h5] at hn hs
              refine V_ias dX6_endOfItem_56 (by first | assumption | exact ⟨by decide, rfl⟩) ⟨rfl, by omega⟩ ?_
              refine V_iload dX6_endOfItem_57 rfl (V_iconst (v := 1) dX6_endOfItem_59 (by decide) (V_iadd dX6_endOfItem_60 (V_istore_4 dX6_endOfItem_61 (by decide) rfl (V_aload_n dX6_endOfItem_63 rfl rfl (V_iload dX6_endOfItem_64 rfl ?_)))))
              refine V_bal dX6_endOfItem_66 (by first | assumption | exact ⟨by decide, rfl⟩) ⟨rfl, by omega⟩ ?_
              refine V_bipush (v := 59) dX6_endOfItem_67 (by decide) ?_
              refine V_icmp_ne_t (tgt := 83) dX6_endOfItem_69 (by decide) (by rw [hI3 _ _ (by decide) (by decide), g1]; exact h59) ?_
              refine V_aload_n dX6_endOfItem_83 rfl rfl (V_iload dX6_endOfItem_84 rfl ?_)
              refine V_bal dX6_endOfItem_86 (by first | assumption | exact ⟨by decide, rfl⟩) ⟨rfl, by omega⟩ ?_
              refine V_bipush (v := 44) dX6_endOfItem_87 (by decide) ?_
              refine V_icmp_eq_t (tgt := 94) dX6_endOfItem_89 (by decide) (by rw [hI3 _ _ (by decide) (by decide), g1]; exact (sg_44 _ g2).mpr h5) ?_
              refine V_iinc_5 (w := 1) dX6_endOfItem_94 (by decide) (by decide) rfl (V_goto (tgt := 8) dX6_endOfItem_97 (by decide) ?_)
              rw [nI_1, nI_1]
              have hlen1 : (pre ++ [nval t k (ndr t len 3 k)]).length = pre.length + 1 := by simp
              have hk := ih (ndr t len 3 k + 1) (pre ++ [nval t k (ndr t len 3 k)]) (up2 I' 3 pre.length (nI (nval t k (ndr t len 3 k)))) (by rw [hlen1]; omega) (by omega) hI3 (by rw [hlen1]; exact hpre3 [] _ (fun q hq => rfl)) (fun he => hn (by rw [he]; rfl)) (fun p l he I9 h9 hq9 hc9 => hs p (nval t k (ndr t len 3 k) :: l) (by rw [he]; rfl) I9 h9 (by simpa using hq9) (by simpa using hc9))
              rw [hlen1] at hk
              exact V_forget hk (by simp [lessb])
            · rw [if_neg h5] at hn
              refine V_ias dX6_endOfItem_56 (by first | assumption | exact ⟨by decide, rfl⟩) ⟨rfl, by omega⟩ ?_
              refine V_iload dX6_endOfItem_57 rfl (V_iconst (v := 1) dX6_endOfItem_59 (by decide) (V_iadd dX6_endOfItem_60 (V_istore_4 dX6_endOfItem_61 (by decide) rfl (V_aload_n dX6_endOfItem_63 rfl rfl (V_iload dX6_endOfItem_64 rfl ?_)))))
              refine V_bal dX6_endOfItem_66 (by first | assumption | exact ⟨by decide, rfl⟩) ⟨rfl, by omega⟩ ?_
              refine V_bipush (v := 59) dX6_endOfItem_67 (by decide) ?_
              refine V_icmp_ne_t (tgt := 83) dX6_endOfItem_69 (by decide) (by rw [hI3 _ _ (by decide) (by decide), g1]; exact h59) ?_
              refine V_aload_n dX6_endOfItem_83 rfl rfl (V_iload dX6_endOfItem_84 rfl ?_)
              refine V_bal dX6_endOfItem_86 (by first | assumption | exact ⟨by decide, rfl⟩) ⟨rfl, by omega⟩ ?_
              refine V_bipush (v := 44) dX6_endOfItem_87 (by decide) ?_
              refine V_icmp_eq_f (tgt := 94) dX6_endOfItem_89 (by decide) (by rw [hI3 _ _ (by decide) (by decide), g1]; exact fun z => h5 ((sg_44 _ g2).mp z)) ?_
              refine V_iconst (v := 0) dX6_endOfItem_92 (by decide) ?_
              refine V_ireturn dX6_endOfItem_93 rfl rfl rfl (by decide) (by decide) ?_
              exact hn rfl _ hI3
  have h0 := key 4 (st + 1) [] I rfl (by omega) (fun a b _ _ => rfl) (fun q hq => absurd hq (by simp)) Kn (fun p l he I9 h9 hq9 hc9 => Ks p l he I9 h9 (by simpa using hq9) (by simpa using hc9))
  rw [nI_1]
  exact h0
end
