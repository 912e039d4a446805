/-! System.arraycopy between two rows of ints -/
theorem nn_i {z : Int32} (hz : ¬ z < 0) : z.toInt = (z.toNatClampNeg : Int) := by
  have hz0 : (0 : Int) ≤ z.toInt := by
    have := Int32.not_lt.mp hz
    simpa using Int32.le_iff_toInt_le.mp this
  show z.toInt = ((z.toInt.toNat : Nat) : Int)
  omega
def cpy2 (I : TI) (k0 k1 sp dp len : Nat) : TI := fun a b => if a = k1 then va_cpy (I k0) (I k1) sp dp len b else I a b
theorem cel_cpy {E : En} {I : TI} {J : TJ} {R : TR} {k0 k1 sp dp len j : Nat} (h : j ≠ k1) : cel E (cpy2 I k0 k1 sp dp len) J R j = cel E I J R j := by
  have e1 : cpy2 I k0 k1 sp dp len j = I j := by funext b; simp [cpy2, h]
  have e : ∀ s' kd, fvl E (cpy2 I k0 k1 sp dp len) J R j s' kd = fvl E I J R j s' kd := by
    intro s' kd
    unfold fvl
    split <;> simp [e1]
  unfold cel
  split <;> simp [e1, fl, e]
section
variable {E : En} {d : Nat} {M : Mt} {Post : PT} {pc : Nat} {ls : List (Option Value)} {st : List Value} {n cs sl : Nat} {I : TI} {J : TJ} {R : TR}
theorem V_copy {idx k0 k1 n0 n1 : Nat} {sp dp q : Int32} (hd : decode (mC M) pc = .ok (.invokestatic idx, 3)) (hl : Cond.methodLink (mY M).cls idx arraycopyName ∈ lw_tbl) (hk0 : at_ n k0 (.inl (0, n0))) (hk1 : at_ n k1 (.inl (0, n1))) (h1 : ¬ sp < 0) (h2 : ¬ dp < 0) (h3 : ¬ q < 0) (h4 : sp.toNatClampNeg + q.toNatClampNeg ≤ n0) (h5 : dp.toNatClampNeg + q.toNatClampNeg ≤ n1) (hd1 : 1 ≤ d) (hst : (st.map fun v => v.category).sum ≤ 8)
    (kk : V E d M Post (pc + 3) ls st n cs sl (cpy2 I k0 k1 sp.toNatClampNeg dp.toNatClampNeg q.toNatClampNeg) J R) : V E d M Post pc ls (.int q :: .int dp :: .ref k1 :: .int sp :: .ref k0 :: st) n cs sl I J R := by
  intro p e s m args below meth c X H locs lc hH hS hL
  have hS9 := X.2.2.2.2.2.2.2.1
  have he0 : (wld E n I J R)[k0]? = some (eB E + k0, .inl ((eA E).1, n0, .inl (I k0))) := by rw [wld_at E I J R hk0.1, cel_int hk0.2]
  have he1 : (wld E n I J R)[k1]? = some (eB E + k1, .inl ((eA E).1, n1, .inl (I k1))) := by rw [wld_at E I J R hk1.1, cel_int hk1.2]
  have hc0 : H[eB E + k0]? = some (vp_cell (eA E).1 (n0, .inl (I k0))) := hH.1 k0 _ he0
  have hc1 : H[eB E + k1]? = some (vp_cell (eA E).1 (n1, .inl (I k1))) := hH.1 k1 _ he1
  obtain ⟨-, kc0, hkc0, cm0, hkk0⟩ := (hS9.1.2 0 _ rfl).1 n0 (fun j => .int (I k0 j))
  obtain ⟨-, kc1, hkc1, cm1, hkk1⟩ := (hS9.1.2 0 _ rfl).1 n1 (fun j => .int (I k1 j))
  have hnf : nativeFrameWords "java/lang/System" "arraycopy" 5 + 11 ≤ 60 := by decide
  have hroom9 : 2 * 0 + ((st.map (cv E)).map fun v => v.category).sum + (nativeFrameWords "java/lang/System" "arraycopy" 5 + 11) ≤ 41 * d + 32 := by
    rw [cat_map]
    omega
  intro T hT Xs
  obtain ⟨vm', X', step⟩ := Xs.arraycopy X.1 X.2.2.2.2.1 (hS9.2 _ hl rfl args) (hS9.2 _ ac_n.1 rfl args) (hS9.2 _ ac_n.2.1 rfl args) (hS9.2 _ ac_n.2.2 rfl args) (src := eB E + k0) (dst := eB E + k1) (cs := vp_cell (eA E).1 (n0, .inl (I k0))) (cd := vp_cell (eA E).1 (n1, .inl (I k1))) (srcPos := sp) (destPos := dp) (n := q) (by rw [hT]; exact hc0) (by rw [hT]; exact hc1)
    (fun _ h => by cases h) (fun _ h => by cases h) (fun h => by cases h) (fun h => by cases h) hkc0 hkc1 hkk0 hkk1 (by simp [refKind]) h1 h2 h3
    (by rw [nn_i h1, nn_i h3]; show ¬ _ > ((arrV _ n0 (fun j => .int (I k0 j))).slots.size : Int); rw [arrV_size]; omega)
    (by rw [nn_i h2, nn_i h3]; show ¬ _ > ((arrV _ n1 (fun j => .int (I k1 j))).slots.size : Int); rw [arrV_size]; omega)
    (fun vm₁ _ i hi => by
      have e : (vp_cell (eA E).1 (n0, .inl (I k0))).slots.getD (sp.toNatClampNeg + i) .null = .int (I k0 (sp.toNatClampNeg + i)) := by
        show (arrV _ n0 (fun j => .int (I k0 j))).slots.getD _ _ = _
        rw [Array.getD_eq_getD_getElem?, arrV_read _ _ (by omega)]
        rfl
      refine ⟨?_, ?_⟩
      · rw [e]
        rfl
      · rw [e]
        exact trivial)
    (g := F0 m pc lc (.int q :: .int dp :: .ref (eB E + k1) :: .int sp :: .ref (eB E + k0) :: st.map (cv E))) rfl (by rw [X.2.2.1, hL.1]) (rest := st.map (cv E)) rfl (by rw [X.2.1]; exact hd) hd1 hroom9
  have e1 : copied (vp_cell (eA E).1 (n0, .inl (I k0))) (vp_cell (eA E).1 (n1, .inl (I k1))) sp dp q = vp_cell (eA E).1 (n1, .inl (va_cpy (I k0) (I k1) sp.toNatClampNeg dp.toNatClampNeg q.toNatClampNeg)) := va_copied (fun z => .int z) _ _ (I k0) (I k1) h4
  rw [e1] at X' step
  have hl1 : eB E + k1 < H.size := (Array.getElem?_eq_some_iff.mp hc1).1
  have hheap : ((T.setVm vm').setCell (eB E + k1) (vp_cell (eA E).1 (n1, .inl (va_cpy (I k0) (I k1) sp.toNatClampNeg dp.toNatClampNeg q.toNatClampNeg)))).heap = H.setIfInBounds (eB E + k1) (vp_cell (eA E).1 (n1, .inl (va_cpy (I k0) (I k1) sp.toNatClampNeg dp.toNatClampNeg q.toNatClampNeg))) := by rw [← hT]; rfl
  have oq : ∀ z : Nat, z ≠ eB E + k1 → (H.setIfInBounds (eB E + k1) (vp_cell (eA E).1 (n1, .inl (va_cpy (I k0) (I k1) sp.toNatClampNeg dp.toNatClampNeg q.toNatClampNeg))))[z]? = H[z]? := fun z hq => by simp [Array.getElem?_setIfInBounds, Ne.symm hq]
  have hP := hH.1.set (wld_D E n I J R) he1 (e := cel E (cpy2 I k0 k1 sp.toNatClampNeg dp.toNatClampNeg q.toNatClampNeg) J R k1) (by
    rw [cel_int hk1.2]
    show (H.setIfInBounds (eB E + k1) _)[eB E + k1]? = some (vp_cell _ _)
    have e2 : cpy2 I k0 k1 sp.toNatClampNeg dp.toNatClampNeg q.toNatClampNeg k1 = va_cpy (I k0) (I k1) sp.toNatClampNeg dp.toNatClampNeg q.toNatClampNeg := by funext b; simp [cpy2]
    rw [e2]
    simp [Array.getElem?_setIfInBounds, hl1]) oq
  rw [wld_set E hk1.1 rfl (fun j hj => cel_cpy hj)] at hP
  obtain ⟨t, a1, b1⟩ := kk p e s m args below meth c X _ _ lc ⟨hP, by simp; exact hH.2⟩ ⟨by simp; exact hS.1, fun z g1 g2 => by
      rw [oq z (fun e => g2 (by rw [e]; exact Nat.le_add_right _ _))]
      exact hS.2.1 z g1 g2, fun z hq => by
      rcases List.mem_append.mp hq with h | h
      · exact hS.2.2 z h
      · obtain ⟨w, -, hz⟩ := List.mem_map.mp h
        rw [← hz]
        exact Nat.le_add_right _ _⟩ hL _ hheap X'
  exact ⟨t, step t a1, b1⟩
end
