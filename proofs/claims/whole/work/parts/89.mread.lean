/-! The reference reads a text: figures, bytes, an empty company -/
def M1 (I : TI) (K : KT) : Prop :=
  I 72 1 = nI (K 0 0) ∧ I 75 1 = nI (K 0 1) ∧ I 81 1 = nI (K 0 2) ∧ I 84 1 = nI (K 0 3) ∧ I 87 5 = nI (K 0 4) ∧ I 87 6 = nI (K 0 5) ∧ I 87 7 = nI (K 0 6) ∧ I 87 8 = nI (K 0 7) ∧ I 87 9 = nI (K 0 8) ∧
  (∀ p, p < K 0 0 → I 73 (10 + p) = nI (K 1 p)) ∧ (∀ p, p < K 0 0 → I 74 (10 + p) = nI (K 2 p)) ∧
  (∀ p, p < 10 → I 85 (10 + p) = nI (K 3 p)) ∧
  (∀ i, i < K 0 1 → I 76 (8 + i) = nI (K 4 i)) ∧ (∀ i, i < K 0 1 → I 77 (8 + i) = nI (K 5 i)) ∧ (∀ i, i < K 0 1 → I 78 (8 + i) = nI (K 6 i)) ∧ (∀ i, i < K 0 1 → I 79 (8 + i) = nI (K 8 i)) ∧
  (∀ i, i < 8 → I 80 (8 + i) = owv (K 7 i)) ∧
  (∀ s, s < K 0 2 → I 82 (10 + s) = nI (K 9 s)) ∧ (∀ s, s < K 0 2 → I 83 (10 + s) = nI (K 10 s)) ∧
  (∀ j, j < 100 → I 86 (100 + j) = nI (K 11 j))
theorem M1.of {I I' : TI} {K : KT} (h : M1 I K) (he : ∀ x y, 72 ≤ x → x ≤ 87 → I' x y = I x y) : M1 I' K := by
  obtain ⟨a1, a2, a3, a4, b1, b2, b3, b4, b5, d1, d2, e, f1, f2, f3, f4, g, k1, k2, l⟩ := h
  refine ⟨?_, ?_, ?_, ?_, ?_, ?_, ?_, ?_, ?_, fun p hp => ?_, fun p hp => ?_, fun p hp => ?_, fun p hp => ?_, fun p hp => ?_, fun p hp => ?_, fun p hp => ?_, fun p hp => ?_, fun p hp => ?_, fun p hp => ?_, fun p hp => ?_⟩ <;> rw [he _ _ (by omega) (by omega)]
  · exact a1
  · exact a2
  · exact a3
  · exact a4
  · exact b1
  · exact b2
  · exact b3
  · exact b4
  · exact b5
  · exact d1 p hp
  · exact d2 p hp
  · exact e p hp
  · exact f1 p hp
  · exact f2 p hp
  · exact f3 p hp
  · exact f4 p hp
  · exact g p hp
  · exact k1 p hp
  · exact k2 p hp
  · exact l p hp
theorem ofs_f (x : Nat) : (x = 72 → ofs x = 1) ∧ (x = 75 → ofs x = 1) ∧ (x = 81 → ofs x = 1) ∧ (x = 84 → ofs x = 1) ∧ (x = 73 → ofs x = 10) ∧ (x = 74 → ofs x = 10) ∧ (x = 85 → ofs x = 10) ∧ (x = 76 → ofs x = 8) ∧ (x = 77 → ofs x = 8) ∧ (x = 78 → ofs x = 8) ∧ (x = 79 → ofs x = 8) ∧ (x = 80 → ofs x = 8) ∧ (x = 82 → ofs x = 10) ∧ (x = 83 → ofs x = 10) ∧ (x = 86 → ofs x = 100) ∧ (x = 87 → ofs x = 5) := by
  refine ⟨?_, ?_, ?_, ?_, ?_, ?_, ?_, ?_, ?_, ?_, ?_, ?_, ?_, ?_, ?_, ?_⟩ <;> (intro h; subst h; decide)
/-- the draft's book, the place and the numbers told alone have changed -/
def Fr1 (I I' : TI) : Prop := ∀ x y, x ≠ 92 → (x ≠ 70 ∨ y ≠ 23) → (x < 72 ∨ 87 < x ∨ y < ofs x) → I' x y = I x y
theorem Fr1.trans {I I1 I2 : TI} (h : Fr1 I I1) (g : Fr1 I1 I2) : Fr1 I I2 := fun x y a b c => (g x y a b c).trans (h x y a b c)
theorem Fr1.rfl' {I : TI} : Fr1 I I := fun _ _ _ _ _ => rfl
def bya (t : Nat → Nat) (len k : Nat) : Nat := if k < len then t k else 0
def fgs (t : Nat → Nat) (len : Nat) : Nat → Nat → Option (Nat × List Nat)
  | 0, k => some (k, [])
  | m + 1, k =>
    if ndr t len 3 k = k ∨ len ≤ ndr t len 3 k then none
    else if t (ndr t len 3 k) = (if m = 0 then 59 else 44) then (fgs t len m (ndr t len 3 k + 1)).map (fun q => (q.1, nval t k (ndr t len 3 k) :: q.2))
    else none
theorem fgs_len (t : Nat → Nat) (len : Nat) : ∀ m k p l, fgs t len m k = some (p, l) → l.length = m
  | 0, k, p, l, h => by
    unfold fgs at h
    cases h; rfl
  | m + 1, k, p, l, h => by
    unfold fgs at h
    generalize (if m = 0 then 59 else 44) = sg at h
    split at h
    · cases h
    · split at h
      · cases hg : fgs t len m (ndr t len 3 k + 1) with
        | none => rw [hg] at h; cases h
        | some z =>
          rw [hg] at h
          obtain ⟨p', l'⟩ := z
          cases h
          simp [fgs_len t len m _ _ _ hg]
      · cases h
theorem fgs_le (t : Nat → Nat) (len : Nat) : ∀ m k p l, fgs t len m k = some (p, l) → (∀ q, l.getD q 0 ≤ 999) ∧ (1 ≤ m → p ≤ len ∧ k < p)
  | 0, k, p, l, h => by
    unfold fgs at h
    cases h
    exact ⟨fun q => by simp, fun z => absurd z (by omega)⟩
  | m + 1, k, p, l, h => by
    obtain ⟨n1, n2, n3⟩ := ndr_in t len 3 k
    have nv : nval t k (ndr t len 3 k) ≤ 999 := nval_le n2 (fun j h1 h2 => (n3 j h1 h2).2)
    unfold fgs at h
    generalize (if m = 0 then 59 else 44) = sg at h
    split at h
    · cases h
    · rename_i hc
      split at h
      · cases hg : fgs t len m (ndr t len 3 k + 1) with
        | none => rw [hg] at h; cases h
        | some z =>
          rw [hg] at h
          obtain ⟨p', l'⟩ := z
          have h9 := Option.some.inj h
          obtain ⟨rfl, rfl⟩ : p' = p ∧ nval t k (ndr t len 3 k) :: l' = l := ⟨congrArg Prod.fst h9, congrArg Prod.snd h9⟩
          obtain ⟨g1, g2⟩ := fgs_le t len m _ _ _ hg
          refine ⟨fun q => ?_, fun _ => ?_⟩
          · cases q with
            | zero => exact nv
            | succ q => exact g1 q
          · by_cases hm : 1 ≤ m
            · have := g2 hm; omega
            · obtain rfl : m = 0 := by omega
              unfold fgs at hg
              cases hg
              omega
      · cases h
/-- the class's reading of an item's numbers, and the reference's -/
theorem eoi_fgs (t : Nat → Nat) (len : Nat) : ∀ m f k, m + 1 ≤ f → fgs t len (m + 1) k = match eoi t len f k with | none => none | some q => if q.2.length = m + 1 then some q else none
  | m, 0, k, hf => absurd hf (by omega)
  | 0, f + 1, k, hf => by
    unfold fgs eoi
    by_cases h1 : ndr t len 3 k = k ∨ len ≤ ndr t len 3 k
    · rw [if_pos h1, if_pos h1]
    · rw [if_neg h1, if_neg h1]
      by_cases h2 : t (ndr t len 3 k) = 59
      · rw [if_pos h2, if_pos rfl, if_pos h2]
        simp [fgs]
      · rw [if_neg h2, if_pos rfl, if_neg h2]
        by_cases h3 : t (ndr t len 3 k) = 44
        · rw [if_pos h3]
          cases he : eoi t len f (ndr t len 3 k + 1) with
          | none => rfl
          | some q =>
            obtain ⟨p, l⟩ := q
            have := (eoi_ok t len f _ _ _ he).2.2.1
            show none = if (nval t k (ndr t len 3 k) :: l).length = 0 + 1 then _ else none
            rw [if_neg (by rw [List.length_cons]; omega)]
        · rw [if_neg h3]
  | m + 1, f + 1, k, hf => by
    have ih := eoi_fgs t len m f (ndr t len 3 k + 1) (by omega)
    unfold fgs eoi
    by_cases h1 : ndr t len 3 k = k ∨ len ≤ ndr t len 3 k
    · rw [if_pos h1, if_pos h1]
    · rw [if_neg h1, if_neg h1, if_neg (show ¬ m + 1 = 0 by omega), ih]
      by_cases h2 : t (ndr t len 3 k) = 59
      · rw [if_neg (by omega), if_pos h2]
        simp
      · rw [if_neg h2]
        by_cases h3 : t (ndr t len 3 k) = 44
        · rw [if_pos h3, if_pos h3]
          cases he : eoi t len f (ndr t len 3 k + 1) with
          | none => rfl
          | some q =>
            obtain ⟨p, l⟩ := q
            show Option.map _ (if l.length = m + 1 then some (p, l) else none) = if (nval t k (ndr t len 3 k) :: l).length = m + 1 + 1 then _ else none
            by_cases hl : l.length = m + 1
            · rw [if_pos hl, if_pos (by simp [hl])]; rfl
            · rw [if_neg hl, if_neg (by simp; omega)]; rfl
        · rw [if_neg h3, if_neg h3]
theorem ndr_succ (t : Nat → Nat) (len : Nat) : ∀ f k, ndr t len (f + 1) k = if ndr t len f k = k + f ∧ k + f < len ∧ 48 ≤ t (k + f) ∧ t (k + f) ≤ 57 then k + f + 1 else ndr t len f k
  | 0, k => by
    unfold ndr
    by_cases h : k < len ∧ 48 ≤ t k ∧ t k ≤ 57
    · rw [if_pos h, if_pos (by simpa [ndr] using h)]; rfl
    · rw [if_neg h, if_neg (by simpa [ndr] using h)]
  | f + 1, k => by
    have ih := ndr_succ t len f (k + 1)
    have e1 : ndr t len (f + 1 + 1) k = if k < len ∧ 48 ≤ t k ∧ t k ≤ 57 then ndr t len (f + 1) (k + 1) else k := rfl
    have e2 : ndr t len (f + 1) k = if k < len ∧ 48 ≤ t k ∧ t k ≤ 57 then ndr t len f (k + 1) else k := rfl
    rw [e1, e2]
    by_cases h : k < len ∧ 48 ≤ t k ∧ t k ≤ 57
    · rw [if_pos h, if_pos h, ih, show k + 1 + f = k + (f + 1) by omega]
    · rw [if_neg h, if_neg h, if_neg (by omega)]
theorem ndr_stop (t : Nat → Nat) (len : Nat) : ∀ f k, ndr t len f k < k + f → ¬ (ndr t len f k < len ∧ 48 ≤ t (ndr t len f k) ∧ t (ndr t len f k) ≤ 57)
  | 0, k, h => absurd h (by unfold ndr; omega)
  | f + 1, k, h => by
    have e2 : ndr t len (f + 1) k = if k < len ∧ 48 ≤ t k ∧ t k ≤ 57 then ndr t len f (k + 1) else k := rfl
    rw [e2] at h ⊢
    by_cases hd : k < len ∧ 48 ≤ t k ∧ t k ≤ 57
    · rw [if_pos hd] at h ⊢
      exact ndr_stop t len f (k + 1) (by omega)
    · rw [if_neg hd]; exact hd
section
variable {E : En} {I : TI} {J : TJ} {co dr : Nat} {cc a1 a2 : Option Nat} {Post : PT} {K : KT} {t : Nat → Nat} {len : Nat} {d : Nat}
theorem MTX.fr {I' : TI} (h : MTX I t len) (hf : Fr1 I I') : MTX I' t len := h.of (fun y => hf _ _ (by omega) (by omega) (by omega)) (hf _ _ (by omega) (by omega) (by omega))
theorem bya_lt (hT : MTX I t len) (k : Nat) : bya t len k < 256 := by
  unfold bya
  split
  · exact (hT.2.2 k (by assumption)).2
  · omega
theorem mr_byteAt (hT : MTX I t len) {k : Nat} (hk : k < 2 ^ 31) (Kk : Post (some (.int (nI (bya t len k)))) NC I J (RR co dr cc a1 a2)) : Cal E d M_X11_byteAt [.ref 70, .int (nI k)] NC I J (RR co dr cc a1 a2) Post := by
  have hl := hT.1
  refine Cal_of kn_X11_byteAt rfl (Nat.le_of_ble_eq_true rfl) ?_
  by_cases h : k < len
  · refine V_iload_n dX11_byteAt_0 rfl rfl (V_aload_n dX11_byteAt_1 rfl rfl ?_)
    refine V_getI dX11_byteAt_2 fl_X11_128 (by first | assumption | exact ⟨by decide, rfl⟩) ?_
    refine V_icmp_ge_f (tgt := 17) dX11_byteAt_5 (by decide) (by rw [hT.2.1]; exact nI_ge h (by omega)) ?_
    refine V_aload_n dX11_byteAt_8 rfl rfl ?_
    refine V_getR dX11_byteAt_9 fl_X11_7 (by first | assumption | exact ⟨by decide, rfl⟩) (by first | assumption | rfl) ?_
    refine V_iload_n dX11_byteAt_12 rfl rfl ?_
    refine V_ial dX11_byteAt_13 (by first | assumption | exact ⟨by decide, rfl⟩) (show ix _ k 400 from ⟨rfl, by omega⟩) ?_
    refine V_goto (tgt := 18) dX11_byteAt_14 (by decide) ?_
    refine V_ireturn dX11_byteAt_18 rfl rfl rfl (by decide) (by decide) ?_
    rw [(hT.2.2 k h).1]
    rw [bya, if_pos h] at Kk; exact Kk
  · refine V_iload_n dX11_byteAt_0 rfl rfl (V_aload_n dX11_byteAt_1 rfl rfl ?_)
    refine V_getI dX11_byteAt_2 fl_X11_128 (by first | assumption | exact ⟨by decide, rfl⟩) ?_
    refine V_icmp_ge_t (tgt := 17) dX11_byteAt_5 (by decide) (by rw [hT.2.1]; exact nI_le (by omega) (by omega)) ?_
    refine V_iconst (v := 0) dX11_byteAt_17 (by decide) ?_
    refine V_ireturn dX11_byteAt_18 rfl rfl rfl (by decide) (by decide) ?_
    rw [bya, if_neg h] at Kk; exact Kk
theorem in_byte {u : Nat} (hu : u < 256) : decide ((48 : Int64).toInt ≤ (nI u).toInt64.toInt ∧ (nI u).toInt64.toInt ≤ (57 : Int64).toInt) = decide (48 ≤ u ∧ u ≤ 57) := by
  rw [in_C (u := 48) (v := 57) (by decide) (by decide), nI_toInt (by omega)]
  exact decide_eq_decide.mpr (by omega)
theorem mr_figures (hT : MTX I t len) {m k : Nat} (hm : m ≤ 4) (hk : I 70 23 = nI k) (hk2 : k ≤ 500) (Kn : fgs t len m k = none → ∀ I', (∀ x y, x ≠ 92 → (x ≠ 70 ∨ y ≠ 23) → I' x y = I x y) → Post (some (.int 0)) NC I' J (RR co dr cc a1 a2)) (Ks : ∀ p l, fgs t len m k = some (p, l) → ∀ I', (∀ x y, x ≠ 92 → (x ≠ 70 ∨ y ≠ 23) → I' x y = I x y) → I' 70 23 = nI p → (∀ q, q < m → I' 92 q = nI (l.getD q 0)) → Post (some (.int 1)) NC I' J (RR co dr cc a1 a2)) : Cal E 2 M_X11_figures [.ref 70, .int (nI m)] NC I J (RR co dr cc a1 a2) Post := by
  have hl := hT.1
  refine Cal_of kn_X11_figures rfl (Nat.le_of_ble_eq_true rfl) ?_
  refine V_iconst (v := 0) dX11_figures_0 (by decide) (V_istore_2 dX11_figures_1 (by decide) rfl ?_)
  have key : ∀ r k (pre : List Nat) I', pre.length + r = m → k ≤ 500 → (∀ x y, x ≠ 92 → (x ≠ 70 ∨ y ≠ 23) → I' x y = I x y) → I' 70 23 = nI k → (∀ q, q < pre.length → I' 92 q = nI (pre.getD q 0)) → (fgs t len r k = none → ∀ I', (∀ x y, x ≠ 92 → (x ≠ 70 ∨ y ≠ 23) → I' x y = I x y) → Post (some (.int 0)) NC I' J (RR co dr cc a1 a2)) → (∀ p l, fgs t len r k = some (p, l) → ∀ I', (∀ x y, x ≠ 92 → (x ≠ 70 ∨ y ≠ 23) → I' x y = I x y) → I' 70 23 = nI p → (∀ q, q < m → I' 92 q = nI ((pre ++ l).getD q 0)) → Post (some (.int 1)) NC I' J (RR co dr cc a1 a2)) → V E 2 M_X11_figures Post 2 [some (.ref 70), some (.int (nI m)), some (.int (nI pre.length)), none, none] [] NC 0 0 I' J (RR co dr cc a1 a2) := by
    intro r
    induction r with
    | zero =>
      intro k pre I' hr hk5 hI hpl hpre _ hs
      refine V_iload_n dX11_figures_2 rfl rfl (V_iload_n dX11_figures_3 rfl rfl ?_)
      refine V_icmp_ge_t (tgt := 136) dX11_figures_4 (by decide) (nI_le (by omega) (by omega)) ?_
      refine V_iconst (v := 1) dX11_figures_136 (by decide) ?_
      refine V_ireturn dX11_figures_137 rfl rfl rfl (by decide) (by decide) ?_
      exact hs k [] rfl I' hI hpl (fun q hq => by rw [List.append_nil]; exact hpre q (by omega))
    | succ r ih =>
      intro k pre I' hr hk5 hI hpl hpre hn hs
      have hT' : MTX I' t len := hT.of (fun y => hI _ _ (by omega) (by omega)) (hI _ _ (by omega) (by omega))
      refine V_iload_n dX11_figures_2 rfl rfl (V_iload_n dX11_figures_3 rfl rfl ?_)
      refine V_icmp_ge_f (tgt := 136) dX11_figures_4 (by decide) (nI_ge (show pre.length < m by omega) (by omega)) ?_
      refine V_iconst (v := 0) dX11_figures_7 (by decide) (V_istore_3 dX11_figures_8 (by decide) rfl (V_iconst (v := 0) dX11_figures_9 (by decide) (V_istore_4 dX11_figures_10 (by decide) rfl ?_)))
      -- behind the digits
      have t73 : ∀ e, ndr t len 4 k = e → V E 2 M_X11_figures Post 73 [some (.ref 70), some (.int (nI m)), some (.int (nI pre.length)), some (.int (nI (e - k))), some (.int (nI (nval t k e)))] [] NC 0 0 (up2 I' 70 23 (nI e)) J (RR co dr cc a1 a2) := by
        intro e he
        have hs4 : ndr t len 4 k = (if ndr t len 3 k = k + 3 ∧ k + 3 < len ∧ 48 ≤ t (k + 3) ∧ t (k + 3) ≤ 57 then k + 3 + 1 else ndr t len 3 k) := ndr_succ t len 3 k
        obtain ⟨n1, n2, n3⟩ := ndr_in t len 3 k
        have hI2 : ∀ x y, x ≠ 92 → (x ≠ 70 ∨ y ≠ 23) → up2 I' 70 23 (nI e) x y = I x y := fun x y a b => by rw [u2n (by omega)]; exact hI x y a b
        have hT2 : MTX (up2 I' 70 23 (nI e)) t len := hT.of (fun y => hI2 _ _ (by omega) (by omega)) (hI2 _ _ (by omega) (by omega))
        unfold fgs at hn hs
        by_cases h4 : ndr t len 3 k = k + 3 ∧ k + 3 < len ∧ 48 ≤ t (k + 3) ∧ t (k + 3) ≤ 57
        · rw [if_pos h4] at hs4
          have e4 : e = k + 4 := by omega
          subst e4
          rw [show k + 4 - k = 4 by omega]
          refine V_iload_n dX11_figures_73 rfl rfl (V_i2l dX11_figures_74 (V_lconst (v := 1) dX11_figures_75 rfl (V_ldc2_w dX11_figures_76 ct_X11_145 ?_)))
          refine V_cS3i (M' := M_X11_in) (d' := 1) dX11_figures_79 (Or.inl ml_X11_124) kb_X11_in (by first | decide | omega) (by simp [Value.category]) ⟨by decide, by decide⟩ ?_
          refine mr_in ⟨_, rfl, ?_⟩
          refine V_if_eq_t (tgt := 110) dX11_figures_82 (by decide) (by decide) ?_
          refine V_iconst (v := 0) dX11_figures_110 (by decide) ?_
          refine V_ireturn dX11_figures_111 rfl rfl rfl (by decide) (by decide) ?_
          refine hn ?_ _ hI2
          rw [if_neg (by omega), if_neg]
          rw [h4.1]
          split <;> omega
        · rw [if_neg h4] at hs4
          have e3 : e = ndr t len 3 k := by omega
          subst e3
          by_cases h0 : ndr t len 3 k = k
          · rw [show ndr t len 3 k - k = 0 by omega]
            refine V_iload_n dX11_figures_73 rfl rfl (V_i2l dX11_figures_74 (V_lconst (v := 1) dX11_figures_75 rfl (V_ldc2_w dX11_figures_76 ct_X11_145 ?_)))
            refine V_cS3i (M' := M_X11_in) (d' := 1) dX11_figures_79 (Or.inl ml_X11_124) kb_X11_in (by first | decide | omega) (by simp [Value.category]) ⟨by decide, by decide⟩ ?_
            refine mr_in ⟨_, rfl, ?_⟩
            refine V_if_eq_t (tgt := 110) dX11_figures_82 (by decide) (by decide) ?_
            refine V_iconst (v := 0) dX11_figures_110 (by decide) ?_
            refine V_ireturn dX11_figures_111 rfl rfl rfl (by decide) (by decide) ?_
            exact hn (if_pos (Or.inl h0)) _ hI2
          · generalize hee : ndr t len 3 k = e at *
            have hin : decide ((1 : Int64).toInt ≤ (nI (e - k)).toInt64.toInt ∧ (nI (e - k)).toInt64.toInt ≤ (3 : Int64).toInt) = true := by
              rw [in_C (u := 1) (v := 3) (by decide) (by decide), nI_toInt (by omega)]
              exact decide_eq_true (by omega)
            refine V_iload_n dX11_figures_73 rfl rfl (V_i2l dX11_figures_74 (V_lconst (v := 1) dX11_figures_75 rfl (V_ldc2_w dX11_figures_76 ct_X11_145 ?_)))
            refine V_cS3i (M' := M_X11_in) (d' := 1) dX11_figures_79 (Or.inl ml_X11_124) kb_X11_in (by first | decide | omega) (by simp [Value.category]) ⟨by decide, by decide⟩ ?_
            refine mr_in ⟨_, rfl, ?_⟩
            rw [hin]
            refine V_if_eq_f (tgt := 110) dX11_figures_82 (by decide) (by decide) ?_
            refine V_aload_n dX11_figures_85 rfl rfl (V_aload_n dX11_figures_86 rfl rfl ?_)
            refine V_getI dX11_figures_87 fl_X11_134 (by first | assumption | exact ⟨by decide, rfl⟩) ?_
            refine V_cV1i (M' := M_X11_byteAt) (d' := 1) dX11_figures_90 (Or.inl ml_X11_137) kb_X11_byteAt (by first | assumption | exact ⟨by decide, rfl⟩) (by first | decide | omega) (by simp [Value.category]) ⟨by decide, by decide⟩ ?_
            rw [u2e]
            refine mr_byteAt hT2 (by omega) ⟨_, rfl, ?_⟩
            have hb := bya_lt hT e
            -- which sign must stand there
            have t107 : ∀ z : Nat, z = (if r = 0 then 59 else 44) → V E 2 M_X11_figures Post 107 [some (.ref 70), some (.int (nI m)), some (.int (nI pre.length)), some (.int (nI (e - k))), some (.int (nI (nval t k e)))] [.int (nI z), .int (nI (bya t len e))] NC 0 0 (up2 I' 70 23 (nI e)) J (RR co dr cc a1 a2) := by
              intro z hz
              have hz2 : z = 59 ∨ z = 44 := by rw [hz]; split <;> simp
              by_cases hsg : bya t len e = z
              · have hlt : e < len := by
                  apply Classical.byContradiction
                  intro q
                  rw [bya, if_neg q] at hsg
                  omega
                rw [bya, if_pos hlt] at hsg
                rw [if_neg (by omega), if_pos (by rw [hsg, hz])] at hn hs
                refine V_icmp_eq_t (tgt := 112) dX11_figures_107 (by decide) (by rw [bya, if_pos hlt, hsg]) ?_
                refine V_aload_n dX11_figures_112 rfl rfl ?_
                refine V_getR dX11_figures_113 fl_X11_73 (by first | assumption | exact ⟨by decide, rfl⟩) (by first | assumption | rfl) ?_
                refine V_iload_n dX11_figures_116 rfl rfl (V_iload dX11_figures_117 rfl ?_)
                refine V_ias dX11_figures_119 (by first | assumption | exact ⟨by decide, rfl⟩) (show ix _ pre.length 4 from ⟨rfl, by omega⟩) ?_
                refine V_aload_n dX11_figures_120 rfl rfl (V_dup dX11_figures_121 rfl ?_)
                refine V_getI dX11_figures_122 fl_X11_134 (by first | assumption | exact ⟨by decide, rfl⟩) ?_
                refine V_iconst (v := 1) dX11_figures_125 (by decide) (V_iadd dX11_figures_126 ?_)
                refine V_putI dX11_figures_127 fl_X11_134 (by first | assumption | exact ⟨by decide, rfl⟩) ?_
                refine V_iinc_2 (w := 1) dX11_figures_130 (by decide) (by decide) rfl (V_goto (tgt := 2) dX11_figures_133 (by decide) ?_)
                rw [u2n (by omega), u2e, nI_1, nI_1]
                have hlen1 : (pre ++ [nval t k e]).length = pre.length + 1 := by simp
                have hk9 := ih (e + 1) (pre ++ [nval t k e]) (up2 (up2 (up2 I' 70 23 (nI e)) 92 pre.length (nI (nval t k e))) 70 23 (nI (e + 1))) (by rw [hlen1]; omega) (by omega) (fun x y a b => by rw [u2n (by omega), u2n (by omega)]; exact hI2 x y a b) u2e (fun q hq => by
                    rw [u2n (by omega)]
                    by_cases hq2 : q = pre.length
                    · subst hq2; rw [u2e]; simp
                    · rw [u2n (by omega), u2n (by omega), hpre q (by simp at hq; omega), List.getD_eq_getElem?_getD, List.getD_eq_getElem?_getD, List.getElem?_append_left (by simp at hq; omega)]) (fun h => hn (by rw [h]; rfl)) (fun p l h I9 h9 hp9 hq9 => hs p (nval t k e :: l) (by rw [h]; rfl) I9 h9 hp9 (by simpa using hq9))
                rw [hlen1] at hk9
                exact V_forget hk9 (by simp [lessb])
              · refine V_icmp_eq_f (tgt := 112) dX11_figures_107 (by decide) (fun q => hsg ((nI_eq (by omega) (by omega)).mp q)) ?_
                refine V_iconst (v := 0) dX11_figures_110 (by decide) ?_
                refine V_ireturn dX11_figures_111 rfl rfl rfl (by decide) (by decide) ?_
                refine hn ?_ _ hI2
                by_cases hlt : e < len
                · rw [if_neg (by omega), if_neg]
                  rw [bya, if_pos hlt] at hsg
                  rw [← hz]; exact hsg
                · exact if_pos (by omega)
            by_cases hr0 : r = 0
            · refine V_iload_n dX11_figures_93 rfl rfl (V_iload_n dX11_figures_94 rfl rfl (V_iconst (v := 1) dX11_figures_95 (by decide) (V_isub dX11_figures_96 ?_)))
              refine V_icmp_ge_t (tgt := 105) dX11_figures_97 (by decide) (by rw [show (1 : Int32) = nI 1 from rfl, pk_sub (by omega)]; exact nI_le (by omega) (by omega)) ?_
              refine V_bipush (v := 59) dX11_figures_105 (by decide) ?_
              exact t107 59 (by rw [if_pos hr0])
            · refine V_iload_n dX11_figures_93 rfl rfl (V_iload_n dX11_figures_94 rfl rfl (V_iconst (v := 1) dX11_figures_95 (by decide) (V_isub dX11_figures_96 ?_)))
              refine V_icmp_ge_f (tgt := 105) dX11_figures_97 (by decide) (by rw [show (1 : Int32) = nI 1 from rfl, pk_sub (by omega)]; exact nI_ge (by omega) (by omega)) ?_
              refine V_bipush (v := 44) dX11_figures_100 (by decide) (V_goto (tgt := 107) dX11_figures_102 (by decide) ?_)
              exact t107 44 (by rw [if_neg hr0])
      -- digits
      have keyD : ∀ f n v I2, n + f = 4 → (∀ x y, (x ≠ 70 ∨ y ≠ 23) → I2 x y = I' x y) → I2 70 23 = nI (k + n) → v < 10 ^ n → ndr t len 4 k = ndr t len f (k + n) → nval t k (ndr t len 4 k) = nvr t (ndr t len f (k + n) - (k + n)) (k + n) v → V E 2 M_X11_figures Post 12 [some (.ref 70), some (.int (nI m)), some (.int (nI pre.length)), some (.int (nI n)), some (.int (nI v))] [] NC 0 0 I2 J (RR co dr cc a1 a2) := by
        intro f
        induction f with
        | zero =>
          intro n v I2 hn4 hI2 hp2 hv he hvv
          obtain rfl : n = 4 := by omega
          have hT2 : MTX I2 t len := hT'.of (fun y => hI2 _ _ (by omega)) (hI2 _ _ (by omega))
          have hee : ndr t len 4 k = k + 4 := he
          have hst : I2 = up2 I' 70 23 (nI (k + 4)) := by
            funext x y
            by_cases hxy : x = 70 ∧ y = 23
            · rw [hxy.1, hxy.2, u2e, hp2]
            · rw [u2n (by omega), hI2 x y (by omega)]
          have fin : V E 2 M_X11_figures Post 73 [some (.ref 70), some (.int (nI m)), some (.int (nI pre.length)), some (.int (nI 4)), some (.int (nI v))] [] NC 0 0 I2 J (RR co dr cc a1 a2) := by
            have h9 := t73 (k + 4) hee
            rw [hee] at hvv
            have hv9 : nval t k (k + 4) = v := by rw [hvv]; show nvr t (k + 4 - (k + 4)) (k + 4) v = v; rw [Nat.sub_self]; rfl
            rw [show k + 4 - k = 4 by omega, hv9, ← hst] at h9
            exact h9
          refine V_aload_n dX11_figures_12 rfl rfl (V_aload_n dX11_figures_13 rfl rfl ?_)
          refine V_getI dX11_figures_14 fl_X11_134 (by first | assumption | exact ⟨by decide, rfl⟩) ?_
          refine V_cV1i (M' := M_X11_byteAt) (d' := 1) dX11_figures_17 (Or.inl ml_X11_137) kb_X11_byteAt (by first | assumption | exact ⟨by decide, rfl⟩) (by first | decide | omega) (by simp [Value.category]) ⟨by decide, by decide⟩ ?_
          rw [hp2]
          refine mr_byteAt hT2 (by omega) ⟨_, rfl, ?_⟩
          refine V_i2l dX11_figures_20 (V_ldc2_w dX11_figures_21 ct_X11_141 (V_ldc2_w dX11_figures_24 ct_X11_143 ?_))
          refine V_cS3i (M' := M_X11_in) (d' := 1) dX11_figures_27 (Or.inl ml_X11_124) kb_X11_in (by first | decide | omega) (by simp [Value.category]) ⟨by decide, by decide⟩ ?_
          refine mr_in ⟨_, rfl, ?_⟩
          rw [in_byte (bya_lt hT _)]
          cases hdg : decide (48 ≤ bya t len (k + 4) ∧ bya t len (k + 4) ≤ 57)
          · refine V_if_eq_t (tgt := 73) dX11_figures_30 (by decide) (rfl) ?_
            exact fin
          · refine V_if_eq_f (tgt := 73) dX11_figures_30 (by decide) (by decide) ?_
            refine V_iload_n dX11_figures_33 rfl rfl (V_iconst (v := 4) dX11_figures_34 (by decide) ?_)
            refine V_icmp_ge_t (tgt := 73) dX11_figures_35 (by decide) (nI_le (a := 4) (b := 4) (by decide) (by decide)) ?_
            exact fin
        | succ f ihf =>
          intro n v I2 hn4 hI2 hp2 hv he hvv
          have hT2 : MTX I2 t len := hT'.of (fun y => hI2 _ _ (by omega)) (hI2 _ _ (by omega))
          have hpw : (10 : Nat) ^ n ≤ 10 ^ 3 := Nat.pow_le_pow_right (by decide) (by omega)
          have e2 : ndr t len (f + 1) (k + n) = if k + n < len ∧ 48 ≤ t (k + n) ∧ t (k + n) ≤ 57 then ndr t len f (k + n + 1) else k + n := rfl
          refine V_aload_n dX11_figures_12 rfl rfl (V_aload_n dX11_figures_13 rfl rfl ?_)
          refine V_getI dX11_figures_14 fl_X11_134 (by first | assumption | exact ⟨by decide, rfl⟩) ?_
          refine V_cV1i (M' := M_X11_byteAt) (d' := 1) dX11_figures_17 (Or.inl ml_X11_137) kb_X11_byteAt (by first | assumption | exact ⟨by decide, rfl⟩) (by first | decide | omega) (by simp [Value.category]) ⟨by decide, by decide⟩ ?_
          rw [hp2]
          refine mr_byteAt hT2 (by omega) ⟨_, rfl, ?_⟩
          refine V_i2l dX11_figures_20 (V_ldc2_w dX11_figures_21 ct_X11_141 (V_ldc2_w dX11_figures_24 ct_X11_143 ?_))
          refine V_cS3i (M' := M_X11_in) (d' := 1) dX11_figures_27 (Or.inl ml_X11_124) kb_X11_in (by first | decide | omega) (by simp [Value.category]) ⟨by decide, by decide⟩ ?_
          refine mr_in ⟨_, rfl, ?_⟩
          rw [in_byte (bya_lt hT _)]
          by_cases hdg : k + n < len ∧ 48 ≤ t (k + n) ∧ t (k + n) ≤ 57
          · have hby : bya t len (k + n) = t (k + n) := by rw [bya, if_pos hdg.1]
            rw [hby, decide_eq_true hdg.2]
            rw [if_pos hdg] at e2
            refine V_if_eq_f (tgt := 73) dX11_figures_30 (by decide) (by decide) ?_
            refine V_iload_n dX11_figures_33 rfl rfl (V_iconst (v := 4) dX11_figures_34 (by decide) ?_)
            refine V_icmp_ge_f (tgt := 73) dX11_figures_35 (by decide) (nI_ge (b := 4) (by omega) (by decide)) ?_
            refine V_bipush (v := 10) dX11_figures_38 (by decide) (V_iload dX11_figures_40 rfl (V_imul dX11_figures_42 (V_aload_n dX11_figures_43 rfl rfl (V_aload_n dX11_figures_44 rfl rfl ?_))))
            refine V_getI dX11_figures_45 fl_X11_134 (by first | assumption | exact ⟨by decide, rfl⟩) ?_
            refine V_cV1i (M' := M_X11_byteAt) (d' := 1) dX11_figures_48 (Or.inl ml_X11_137) kb_X11_byteAt (by first | assumption | exact ⟨by decide, rfl⟩) (by first | decide | omega) (by simp [Value.category]) ⟨by decide, by decide⟩ ?_
            rw [hp2]
            refine mr_byteAt hT2 (by omega) ⟨_, rfl, ?_⟩
            rw [hby]
            refine V_iadd dX11_figures_51 (V_bipush (v := 48) dX11_figures_52 (by decide) (V_isub dX11_figures_54 (V_istore_4 dX11_figures_55 (by decide) rfl (V_iinc_3 (w := 1) dX11_figures_57 (by decide) (by decide) rfl (V_aload_n dX11_figures_60 rfl rfl ?_)))))
            refine V_dup dX11_figures_61 rfl ?_
            refine V_getI dX11_figures_62 fl_X11_134 (by first | assumption | exact ⟨by decide, rfl⟩) ?_
            refine V_iconst (v := 1) dX11_figures_65 (by decide) (V_iadd dX11_figures_66 ?_)
            refine V_putI dX11_figures_67 fl_X11_134 (by first | assumption | exact ⟨by decide, rfl⟩) ?_
            refine V_goto (tgt := 12) dX11_figures_70 (by decide) ?_
            obtain ⟨n1, n2, n3⟩ := ndr_in t len f (k + n + 1)
            rw [show (10 : Int32) = nI 10 from rfl, show (48 : Int32) = nI 48 from rfl, pk_mul, nI_add, pk_sub (by omega), nI_1, hp2, nI_1]
            refine ihf (n + 1) (10 * v + t (k + n) - 48) _ (by omega) (fun x y a => by rw [u2n (by omega)]; exact hI2 x y a) (by rw [u2e]; rfl) (by rw [Nat.pow_succ]; omega) (by rw [he, e2]; rfl) ?_
            rw [hvv, e2]
            rw [show ndr t len f (k + n + 1) - (k + n) = (ndr t len f (k + n + 1) - (k + (n + 1))) + 1 by omega]
            show nvr t _ (k + n + 1) (v * 10 + t (k + n) - 48) = _
            rw [Nat.mul_comm v 10]
            rfl
          · rw [if_neg hdg] at e2
            have hfl : decide (48 ≤ bya t len (k + n) ∧ bya t len (k + n) ≤ 57) = false := by
              apply decide_eq_false
              intro q
              unfold bya at q
              split at q
              · exact hdg ⟨by assumption, q⟩
              · omega
            rw [hfl]
            refine V_if_eq_t (tgt := 73) dX11_figures_30 (by decide) (rfl) ?_
            have hee : ndr t len 4 k = k + n := by rw [he, e2]
            have hst : I2 = up2 I' 70 23 (nI (k + n)) := by
              funext x y
              by_cases hxy : x = 70 ∧ y = 23
              · rw [hxy.1, hxy.2, u2e, hp2]
              · rw [u2n (by omega), hI2 x y (by omega)]
            have h9 := t73 (k + n) hee
            rw [hee, e2] at hvv
            have hv9 : nval t k (k + n) = v := by rw [hvv, Nat.sub_self]; rfl
            rw [show k + n - k = n by omega, hv9, ← hst] at h9
            exact h9
      exact keyD 4 0 0 I' (by omega) (fun _ _ _ => rfl) hpl (by decide) rfl rfl
  exact key m k [] I (by simp) hk2 (fun _ _ _ _ => rfl) hk (fun q hq => absurd hq (by simp)) Kn (fun p l h I9 h9 hp9 hq9 => Ks p l h I9 h9 hp9 (by simpa using hq9))
theorem mr_noCompany {b : Nat} (hb : b ≤ 1) (Kk : ∀ I', (∀ x y, (x < 72 ∨ 87 < x ∨ b = 1 ∧ y < ofs x ∨ x = 73 ∨ x = 74 ∨ x = 76 ∨ x = 77 ∨ x = 78 ∨ x = 79 ∨ x = 82 ∨ x = 83) → I' x y = I x y) → (I' 72 b = 0 ∧ I' 75 b = 0 ∧ I' 81 b = 0 ∧ I' 84 b = 0) → (∀ k, k < 10 → I' 85 (10 * b + k) = 0) → (∀ k, k < 8 → I' 80 (8 * b + k) = -4) → (∀ k, k < 100 → I' 86 (100 * b + k) = 0) → (I' 87 (5 * b) = 0 ∧ I' 87 (5 * b + 1) = 1 ∧ I' 87 (5 * b + 2) = 10 ∧ I' 87 (5 * b + 3) = 100 ∧ I' 87 (5 * b + 4) = 5) → Post none NC I' J (RR co dr cc a1 a2)) : Cal E d M_X11_noCompany [.ref 70, .int (nI b)] NC I J (RR co dr cc a1 a2) Post := by
  have e5 : (5 : Int32) * nI b = nI (5 * b) := by rw [show (5 : Int32) = nI 5 from rfl, pk_mul]
  have e5a : ∀ c : Nat, (5 : Int32) * nI b + nI c = nI (5 * b + c) := fun c => by rw [e5, nI_add]
  refine Cal_of kn_X11_noCompany rfl (Nat.le_of_ble_eq_true rfl) ?_
  refine V_aload_n dX11_noCompany_0 rfl rfl ?_
  refine V_getR dX11_noCompany_1 fl_X11_13 (by first | assumption | exact ⟨by decide, rfl⟩) (by first | assumption | rfl) ?_
  refine V_iload_n dX11_noCompany_4 rfl rfl (V_iconst (v := 0) dX11_noCompany_5 (by decide) ?_)
  refine V_ias dX11_noCompany_6 (by first | assumption | exact ⟨by decide, rfl⟩) (show ix _ b 2 from ⟨rfl, by omega⟩) ?_
  refine V_aload_n dX11_noCompany_7 rfl rfl ?_
  refine V_getR dX11_noCompany_8 fl_X11_22 (by first | assumption | exact ⟨by decide, rfl⟩) (by first | assumption | rfl) ?_
  refine V_iload_n dX11_noCompany_11 rfl rfl (V_iconst (v := 0) dX11_noCompany_12 (by decide) ?_)
  refine V_ias dX11_noCompany_13 (by first | assumption | exact ⟨by decide, rfl⟩) (show ix _ b 2 from ⟨rfl, by omega⟩) ?_
  refine V_aload_n dX11_noCompany_14 rfl rfl ?_
  refine V_getR dX11_noCompany_15 fl_X11_40 (by first | assumption | exact ⟨by decide, rfl⟩) (by first | assumption | rfl) ?_
  refine V_iload_n dX11_noCompany_18 rfl rfl (V_iconst (v := 0) dX11_noCompany_19 (by decide) ?_)
  refine V_ias dX11_noCompany_20 (by first | assumption | exact ⟨by decide, rfl⟩) (show ix _ b 2 from ⟨rfl, by omega⟩) ?_
  refine V_aload_n dX11_noCompany_21 rfl rfl ?_
  refine V_getR dX11_noCompany_22 fl_X11_49 (by first | assumption | exact ⟨by decide, rfl⟩) (by first | assumption | rfl) ?_
  refine V_iload_n dX11_noCompany_25 rfl rfl (V_iconst (v := 0) dX11_noCompany_26 (by decide) ?_)
  refine V_ias dX11_noCompany_27 (by first | assumption | exact ⟨by decide, rfl⟩) (show ix _ b 2 from ⟨rfl, by omega⟩) ?_
  refine V_iconst (v := 0) dX11_noCompany_28 (by decide) (V_istore_2 dX11_noCompany_29 (by decide) rfl ?_)
  generalize hI0 : up2 (up2 (up2 (up2 I 72 b 0) 75 b 0) 81 b 0) 84 b 0 = I0
  have g0 : I0 72 b = 0 ∧ I0 75 b = 0 ∧ I0 81 b = 0 ∧ I0 84 b = 0 ∧ ∀ x y, (x ≠ 72 ∧ x ≠ 75 ∧ x ≠ 81 ∧ x ≠ 84 ∨ y ≠ b) → I0 x y = I x y := by
    subst hI0
    exact ⟨by rw [u2n (by omega), u2n (by omega), u2n (by omega), u2e], by rw [u2n (by omega), u2n (by omega), u2e], by rw [u2n (by omega), u2e], u2e, fun x y h => by rw [u2n (by omega), u2n (by omega), u2n (by omega), u2n (by omega)]⟩
  have key1 : ∀ k, k ≤ 10 → ∀ I1, (∀ x y, I1 x y = if x = 85 ∧ 10 * b ≤ y ∧ y < 10 * b + k then 0 else I0 x y) → V E d M_X11_noCompany Post 30 [some (.ref 70), some (.int (nI b)), some (.int (nI k))] [] NC 0 0 I1 J (RR co dr cc a1 a2) := by
    refine loop_up 10 ?_ ?_
    · intro I1 h1
      refine V_iload_n dX11_noCompany_30 rfl rfl (V_bipush (v := 10) dX11_noCompany_31 (by decide) ?_)
      refine V_icmp_ge_t (tgt := 54) dX11_noCompany_33 (by decide) (nI_le (a := 10) (b := 10) (by decide) (by decide)) ?_
      refine V_iconst (v := 0) dX11_noCompany_54 (by decide) (V_istore_2 dX11_noCompany_55 (by decide) rfl ?_)
      have key2 : ∀ k, k ≤ 8 → ∀ I2, (∀ x y, I2 x y = if x = 80 ∧ 8 * b ≤ y ∧ y < 8 * b + k then -4 else I1 x y) → V E d M_X11_noCompany Post 56 [some (.ref 70), some (.int (nI b)), some (.int (nI k))] [] NC 0 0 I2 J (RR co dr cc a1 a2) := by
        refine loop_up 8 ?_ ?_
        · intro I2 h2
          refine V_iload_n dX11_noCompany_56 rfl rfl (V_bipush (v := 8) dX11_noCompany_57 (by decide) ?_)
          refine V_icmp_ge_t (tgt := 81) dX11_noCompany_59 (by decide) (nI_le (a := 8) (b := 8) (by decide) (by decide)) ?_
          refine V_iconst (v := 0) dX11_noCompany_81 (by decide) (V_istore_2 dX11_noCompany_82 (by decide) rfl ?_)
          have key3 : ∀ k, k ≤ 100 → ∀ I3, (∀ x y, I3 x y = if x = 86 ∧ 100 * b ≤ y ∧ y < 100 * b + k then 0 else I2 x y) → V E d M_X11_noCompany Post 83 [some (.ref 70), some (.int (nI b)), some (.int (nI k))] [] NC 0 0 I3 J (RR co dr cc a1 a2) := by
            refine loop_up 100 ?_ ?_
            · intro I3 h3
              refine V_iload_n dX11_noCompany_83 rfl rfl (V_bipush (v := 100) dX11_noCompany_84 (by decide) ?_)
              refine V_icmp_ge_t (tgt := 107) dX11_noCompany_86 (by decide) (nI_le (a := 100) (b := 100) (by decide) (by decide)) ?_
              refine V_aload_n dX11_noCompany_107 rfl rfl ?_
              refine V_getR dX11_noCompany_108 fl_X11_58 (by first | assumption | exact ⟨by decide, rfl⟩) (by first | assumption | rfl) ?_
              refine V_iconst (v := 5) dX11_noCompany_111 (by decide) (V_iload_n dX11_noCompany_112 rfl rfl (V_imul dX11_noCompany_113 (V_iconst (v := 0) dX11_noCompany_114 (by decide) ?_)))
              refine V_ias dX11_noCompany_115 (by first | assumption | exact ⟨by decide, rfl⟩) (show ix _ (5 * b) 10 from ⟨e5, by omega⟩) ?_
              refine V_aload_n dX11_noCompany_116 rfl rfl ?_
              refine V_getR dX11_noCompany_117 fl_X11_58 (by first | assumption | exact ⟨by decide, rfl⟩) (by first | assumption | rfl) ?_
              refine V_iconst (v := 5) dX11_noCompany_120 (by decide) (V_iload_n dX11_noCompany_121 rfl rfl (V_imul dX11_noCompany_122 (V_iconst (v := 1) dX11_noCompany_123 (by decide) (V_iadd dX11_noCompany_124 (V_iconst (v := 1) dX11_noCompany_125 (by decide) ?_)))))
              refine V_ias dX11_noCompany_126 (by first | assumption | exact ⟨by decide, rfl⟩) (show ix _ (5 * b + 1) 10 from ⟨e5a 1, by omega⟩) ?_
              refine V_aload_n dX11_noCompany_127 rfl rfl ?_
              refine V_getR dX11_noCompany_128 fl_X11_58 (by first | assumption | exact ⟨by decide, rfl⟩) (by first | assumption | rfl) ?_
              refine V_iconst (v := 5) dX11_noCompany_131 (by decide) (V_iload_n dX11_noCompany_132 rfl rfl (V_imul dX11_noCompany_133 (V_iconst (v := 2) dX11_noCompany_134 (by decide) (V_iadd dX11_noCompany_135 (V_bipush (v := 10) dX11_noCompany_136 (by decide) ?_)))))
              refine V_ias dX11_noCompany_138 (by first | assumption | exact ⟨by decide, rfl⟩) (show ix _ (5 * b + 2) 10 from ⟨e5a 2, by omega⟩) ?_
              refine V_aload_n dX11_noCompany_139 rfl rfl ?_
              refine V_getR dX11_noCompany_140 fl_X11_58 (by first | assumption | exact ⟨by decide, rfl⟩) (by first | assumption | rfl) ?_
              refine V_iconst (v := 5) dX11_noCompany_143 (by decide) (V_iload_n dX11_noCompany_144 rfl rfl (V_imul dX11_noCompany_145 (V_iconst (v := 3) dX11_noCompany_146 (by decide) (V_iadd dX11_noCompany_147 (V_bipush (v := 100) dX11_noCompany_148 (by decide) ?_)))))
              refine V_ias dX11_noCompany_150 (by first | assumption | exact ⟨by decide, rfl⟩) (show ix _ (5 * b + 3) 10 from ⟨e5a 3, by omega⟩) ?_
              refine V_aload_n dX11_noCompany_151 rfl rfl ?_
              refine V_getR dX11_noCompany_152 fl_X11_58 (by first | assumption | exact ⟨by decide, rfl⟩) (by first | assumption | rfl) ?_
              refine V_iconst (v := 5) dX11_noCompany_155 (by decide) (V_iload_n dX11_noCompany_156 rfl rfl (V_imul dX11_noCompany_157 (V_iconst (v := 4) dX11_noCompany_158 (by decide) (V_iadd dX11_noCompany_159 (V_iconst (v := 5) dX11_noCompany_160 (by decide) ?_)))))
              refine V_ias dX11_noCompany_161 (by first | assumption | exact ⟨by decide, rfl⟩) (show ix _ (5 * b + 4) 10 from ⟨e5a 4, by omega⟩) ?_
              refine V_return dX11_noCompany_162 rfl rfl (by decide) (by decide) ?_
              refine Kk _ (fun x y hxy => ?_) ⟨?_, ?_, ?_, ?_⟩ (fun k hk => ?_) (fun k hk => ?_) (fun k hk => ?_) ⟨?_, ?_, ?_, ?_, ?_⟩
              · have := ofs_f x
                rw [u2n (by omega), u2n (by omega), u2n (by omega), u2n (by omega), u2n (by omega), h3, if_neg (by omega), h2, if_neg (by omega), h1, if_neg (by omega)]
                exact g0.2.2.2.2 x y (by omega)
              · rw [u2n (by omega), u2n (by omega), u2n (by omega), u2n (by omega), u2n (by omega), h3, if_neg (by omega), h2, if_neg (by omega), h1, if_neg (by omega)]; exact g0.1
              · rw [u2n (by omega), u2n (by omega), u2n (by omega), u2n (by omega), u2n (by omega), h3, if_neg (by omega), h2, if_neg (by omega), h1, if_neg (by omega)]; exact g0.2.1
              · rw [u2n (by omega), u2n (by omega), u2n (by omega), u2n (by omega), u2n (by omega), h3, if_neg (by omega), h2, if_neg (by omega), h1, if_neg (by omega)]; exact g0.2.2.1
              · rw [u2n (by omega), u2n (by omega), u2n (by omega), u2n (by omega), u2n (by omega), h3, if_neg (by omega), h2, if_neg (by omega), h1, if_neg (by omega)]; exact g0.2.2.2.1
              · rw [u2n (by omega), u2n (by omega), u2n (by omega), u2n (by omega), u2n (by omega), h3, if_neg (by omega), h2, if_neg (by omega), h1, if_pos (by omega)]
              · rw [u2n (by omega), u2n (by omega), u2n (by omega), u2n (by omega), u2n (by omega), h3, if_neg (by omega), h2, if_pos (by omega)]
              · rw [u2n (by omega), u2n (by omega), u2n (by omega), u2n (by omega), u2n (by omega), h3, if_pos (by omega)]
              · rw [u2n (by omega), u2n (by omega), u2n (by omega), u2n (by omega), u2e]
              · rw [u2n (by omega), u2n (by omega), u2n (by omega), u2e]
              · rw [u2n (by omega), u2n (by omega), u2e]
              · rw [u2n (by omega), u2e]
              · rw [u2e]
            · intro k hk ih I3 h3
              refine V_iload_n dX11_noCompany_83 rfl rfl (V_bipush (v := 100) dX11_noCompany_84 (by decide) ?_)
              refine V_icmp_ge_f (tgt := 107) dX11_noCompany_86 (by decide) (nI_ge (b := 100) hk (by decide)) ?_
              refine V_aload_n dX11_noCompany_89 rfl rfl ?_
              refine V_getR dX11_noCompany_90 fl_X11_55 (by first | assumption | exact ⟨by decide, rfl⟩) (by first | assumption | rfl) ?_
              refine V_bipush (v := 100) dX11_noCompany_93 (by decide) (V_iload_n dX11_noCompany_95 rfl rfl (V_imul dX11_noCompany_96 (V_iload_n dX11_noCompany_97 rfl rfl (V_iadd dX11_noCompany_98 (V_iconst (v := 0) dX11_noCompany_99 (by decide) ?_)))))
              refine V_ias dX11_noCompany_100 (by first | assumption | exact ⟨by decide, rfl⟩) (show ix _ (100 * b + k) 200 from ixm (c := 100) (by omega)) ?_
              refine V_iinc_2 (w := 1) dX11_noCompany_101 (by decide) (by decide) rfl (V_goto (tgt := 83) dX11_noCompany_104 (by decide) ?_)
              rw [nI_1]
              refine ih _ (fun x y => ?_)
              by_cases hx : x = 86 ∧ y = 100 * b + k
              · rw [hx.1, hx.2, u2e, if_pos (by omega)]
              · rw [u2n (by omega), h3]
                by_cases hx2 : x = 86 ∧ 100 * b ≤ y ∧ y < 100 * b + k
                · rw [if_pos hx2, if_pos (by omega)]
                · rw [if_neg hx2, if_neg (by omega)]
          exact key3 0 (by omega) I2 (fun x y => by rw [if_neg (by omega)])
        · intro k hk ih I2 h2
          refine V_iload_n dX11_noCompany_56 rfl rfl (V_bipush (v := 8) dX11_noCompany_57 (by decide) ?_)
          refine V_icmp_ge_f (tgt := 81) dX11_noCompany_59 (by decide) (nI_ge (b := 8) hk (by decide)) ?_
          refine V_aload_n dX11_noCompany_62 rfl rfl ?_
          refine V_getR dX11_noCompany_63 fl_X11_37 (by first | assumption | exact ⟨by decide, rfl⟩) (by first | assumption | rfl) ?_
          refine V_bipush (v := 8) dX11_noCompany_66 (by decide) (V_iload_n dX11_noCompany_68 rfl rfl (V_imul dX11_noCompany_69 (V_iload_n dX11_noCompany_70 rfl rfl (V_iadd dX11_noCompany_71 (V_bipush (v := (-4)) dX11_noCompany_72 (by decide) ?_)))))
          refine V_ias dX11_noCompany_74 (by first | assumption | exact ⟨by decide, rfl⟩) (show ix _ (8 * b + k) 16 from ixm (c := 8) (by omega)) ?_
          refine V_iinc_2 (w := 1) dX11_noCompany_75 (by decide) (by decide) rfl (V_goto (tgt := 56) dX11_noCompany_78 (by decide) ?_)
          rw [nI_1]
          refine ih _ (fun x y => ?_)
          by_cases hx : x = 80 ∧ y = 8 * b + k
          · rw [hx.1, hx.2, u2e, if_pos (by omega)]
          · rw [u2n (by omega), h2]
            by_cases hx2 : x = 80 ∧ 8 * b ≤ y ∧ y < 8 * b + k
            · rw [if_pos hx2, if_pos (by omega)]
            · rw [if_neg hx2, if_neg (by omega)]
      exact key2 0 (by omega) I1 (fun x y => by rw [if_neg (by omega)])
    · intro k hk ih I1 h1
      refine V_iload_n dX11_noCompany_30 rfl rfl (V_bipush (v := 10) dX11_noCompany_31 (by decide) ?_)
      refine V_icmp_ge_f (tgt := 54) dX11_noCompany_33 (by decide) (nI_ge (b := 10) hk (by decide)) ?_
      refine V_aload_n dX11_noCompany_36 rfl rfl ?_
      refine V_getR dX11_noCompany_37 fl_X11_52 (by first | assumption | exact ⟨by decide, rfl⟩) (by first | assumption | rfl) ?_
      refine V_bipush (v := 10) dX11_noCompany_40 (by decide) (V_iload_n dX11_noCompany_42 rfl rfl (V_imul dX11_noCompany_43 (V_iload_n dX11_noCompany_44 rfl rfl (V_iadd dX11_noCompany_45 (V_iconst (v := 0) dX11_noCompany_46 (by decide) ?_)))))
      refine V_ias dX11_noCompany_47 (by first | assumption | exact ⟨by decide, rfl⟩) (show ix _ (10 * b + k) 20 from ixm (c := 10) (by omega)) ?_
      refine V_iinc_2 (w := 1) dX11_noCompany_48 (by decide) (by decide) rfl (V_goto (tgt := 30) dX11_noCompany_51 (by decide) ?_)
      rw [nI_1]
      refine ih _ (fun x y => ?_)
      by_cases hx : x = 85 ∧ y = 10 * b + k
      · rw [hx.1, hx.2, u2e, if_pos (by omega)]
      · rw [u2n (by omega), h1]
        by_cases hx2 : x = 85 ∧ 10 * b ≤ y ∧ y < 10 * b + k
        · rw [if_pos hx2, if_pos (by omega)]
        · rw [if_neg hx2, if_neg (by omega)]
  exact key1 0 (by omega) I0 (fun x y => by rw [if_neg (by omega)])
end
