/-! Known pairs are no more than the covers that were told -/
theorem KC_of {K K' : KT} (h : KC K) (h3 : ∀ p, K' 3 p = K 3 p) (h0 : K' 0 3 = K 0 3) : KC K' := by
  unfold KC
  rw [h0]
  exact Nat.le_trans (Nat.le_of_eq (fb_ct_cong (fun t _ => by rw [h3]))) h
theorem KC_aKn {K : KT} (h : KC K) {a b : Nat} (ha : a < 10) (hb : b < 8) : KC (aKn K a b) := by
  unfold KC
  have e0 : aKn K a b 0 3 = K 0 3 + 1 := by simp [aKn, up2]
  rw [e0]
  have e : fb_ct (fun t => (aKn K a b 3 (t / 8)).testBit (t % 8)) 80 = fb_ct (fun k => if k = 8 * a + b then true else (K 3 (k / 8)).testBit (k % 8)) 80 := fb_ct_cong (fun t _ => by
    by_cases hta : t / 8 = a
    · have e3 : aKn K a b 3 (t / 8) = K 3 a ||| 2 ^ b := by simp [aKn, up2, hta]
      rw [e3, fb_bit_set]
      by_cases htb : t % 8 = b
      · rw [if_pos (by omega)]; simp [htb]
      · rw [if_neg (by omega), hta]; simp [htb]
    · have e3 : aKn K a b 3 (t / 8) = K 3 (t / 8) := by simp [aKn, up2, hta]
      rw [e3, if_neg (by omega)])
  rw [e]
  have := fb_ct_upd (fun k => (K 3 (k / 8)).testBit (k % 8)) true (show 8 * a + b < 80 by omega)
  unfold KC at h
  simp at this
  have h2 : fb_ct (fun k => if k = 8 * a + b then true else (K 3 (k / 8)).testBit (k % 8)) 80 ≤ fb_ct (fun k => (K 3 (k / 8)).testBit (k % 8)) 80 + 1 := by
    have h3 := fb_ct_upd (fun k => (K 3 (k / 8)).testBit (k % 8)) true (show 8 * a + b < 80 by omega)
    rw [if_pos rfl] at h3
    omega
  omega
theorem KC_K0 : KC K0 := by
  unfold KC
  have : fb_ct (fun t => (K0 3 (t / 8)).testBit (t % 8)) 80 = 0 := fb_ct_zero.mpr (fun t _ => by simp [K0])
  omega
theorem takeK_KC {K K' : KT} {u n : Nat} {nu : Nat → Nat} (hB : KB K) (hC : KC K) (h : takeK K u nu n = some K') : KC K' := by
  have hP := hB.1.1
  have hQ := hB.1.2.1
  unfold takeK at h
  repeat' split at h
  all_goals first
    | (cases h; done)
    | skip
  all_goals cases h
  · exact KC_of hC (fun p => by simp [aPl, up2]) (by simp [aPl, up2])
  · exact KC_of hC (fun p => by simp [aPa, up2]) (by simp [aPa, up2])
  · exact KC_of hC (fun p => by simp [aSc, up2]) (by simp [aSc, up2])
  · exact KC_of hC (fun p => by simp [aOw, up2]) (by simp [aOw, up2])
  · rename_i hcd; exact KC_aKn hC (by omega) (by omega)
  · exact KC_of hC (fun p => by simp [aCo, up2]) (by simp [aCo, up2])
  · exact KC_of hC (fun p => by simp [up2]) (by simp [up2])
  · exact KC_of hC (fun p => by simp [up2]) (by simp [up2])
  · exact KC_of hC (fun p => by simp [up2]) (by simp [up2])
  · exact KC_of hC (fun p => by simp [aPy, up2]) (by simp [aPy, up2])
theorem rdF_end {t : Nat → Nat} {len f k : Nat} {K : KT} (h : len ≤ k) : rdF t len (f + 1) K k = (none, K) := by
  conv => lhs; unfold rdF
  rw [if_pos h]
theorem rdF_KC {t : Nat → Nat} {len : Nat} (f : Nat) : ∀ (K : KT) (k : Nat), KB K → KC K → KB (rdF t len f K k).2 ∧ KC (rdF t len f K k).2 := by
  induction f with
  | zero => intro K k hB hC; unfold rdF; exact ⟨hB, hC⟩
  | succ f ih =>
    intro K k hB hC
    unfold rdF
    by_cases hkl : len ≤ k
    · rw [if_pos hkl]; exact ⟨hB, hC⟩
    · rw [if_neg hkl]
      cases he : eoi t len 4 (k + 1) with
      | none => exact ⟨hB, hC⟩
      | some r =>
        obtain ⟨p, l⟩ := r
        obtain ⟨w1, w2, w3, w4, w5⟩ := eoi_ok t len 4 (k + 1) p l he
        dsimp only
        cases ht : takeK K (t k) (fun q => l.getD q 0) l.length with
        | none => exact ⟨hB, hC⟩
        | some K' => exact ih K' p (takeK_KB hB w5 ht) (takeK_KC hB hC ht)
