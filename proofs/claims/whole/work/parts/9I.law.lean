/-! The law: printed by gen_law.py -/
abbrev M_L_law (nm : String) : Mt := (⟨RL, nm, "([I)Z"⟩, cL_law, 4, some .boolean, 600000, 7302250, true)
section
variable {E : En} {d : Nat} {M : Mt} {Post : PT} {pc : Nat} {ls : List (Option Value)} {st : List Value} {n cs sl : Nat} {I : TI} {J : TJ} {R : TR}
theorem V_sld {i : Int32} {j x : Nat} (hw : mW M = true) (hd : decode (mC M) pc = .ok (.iaload, 1)) (hN : eN E ≤ 2048) (hx : ix i j (eN E)) (kk : V E d M Post (pc + 1) ls (.int (eX E j) :: st) n cs sl I J R) : V E d M Post pc ls (.int i :: .retAddr x :: st) n cs sl I J R := by
  intro p e s m args below meth c X H locs lc hH hS hL
  obtain ⟨ha, hb, hX, hlt⟩ := X.2.2.2.2.2.2.2.2.2 hw
  have e1 := ix_cl hx (by omega)
  refine va_sld (A := fun q => eB E ≤ q) X.1 X.2.1 hX (by rw [← hb]; exact hlt) (Nat.not_le.mpr hlt) hS (ix_in hx (by omega)) hd ?_
  rw [e1]
  exact kk p e s m args below meth c X H locs lc hH hS hL
theorem V_slen {x : Nat} (hw : mW M = true) (hd : decode (mC M) pc = .ok (.arraylength, 1)) (kk : V E d M Post (pc + 1) ls (.int (nI (eN E)) :: st) n cs sl I J R) : V E d M Post pc ls (.retAddr x :: st) n cs sl I J R := by
  intro p e s m args below meth c X H locs lc hH hS hL
  obtain ⟨ha, hb, hX, hlt⟩ := X.2.2.2.2.2.2.2.2.2 hw
  exact va_slen (A := fun q => eB E ≤ q) X.1 X.2.1 hX (by rw [← hb]; exact hlt) (Nat.not_le.mpr hlt) hS hd (kk p e s m args below meth c X H locs lc hH hS hL)
theorem CS.lo {t : Nat → Nat} {len : Nat} {K : KT} {D D1 D2 : Di} {kp : Nat} {tl : Nat → Int32} {I' : TI} {J' : TJ} (h : CS t len K D D1 D2 kp tl I J R) (h1 : ∀ x y, x < 70 → I' x y = I x y) (h2 : ∀ x y, x ≠ 70 → J' x y = J x y) : CS t len K D D1 D2 kp tl I' J' R := by
  obtain ⟨co, dr, cc, a1, a2, hw, hR, hX, hS, hT, hD, hC⟩ := h
  have hco := hw.co
  exact ⟨co, dr, cc, a1, a2, hw, hR, hX.of (fun a b p q => h1 a b (by omega)), hS.of (fun b => ⟨h1 _ _ (by omega), h1 _ _ (by omega)⟩), hT.of (fun y => h1 _ _ (by omega)) (h1 _ _ (by omega)), hD.of (fun x y p q => h1 x y (by omega)) (h1 _ _ (by omega)), hC.of (fun x y p q => h1 x y (by omega)) (fun y => h2 _ _ (by omega))⟩
theorem MS.hi {t : Nat → Nat} {len : Nat} {K : KT} {D D1 D2 : Di} {kp : Nat} {tl : Nat → Int32} {I' : TI} (h : MS t len K D D1 D2 kp tl I) (h1 : ∀ x y, 70 ≤ x → I' x y = I x y) : MS t len K D D1 D2 kp tl I' := h.sc (fun x y a _ => h1 x y (by omega)) (h1 _ _ (by omega)) (h1 _ _ (by omega))
def DBk (k : Nat) (D : Di) : Prop := D.1 ≤ 100 * k ∧ ∀ j, D.2.1 j ≤ D.1
theorem DBk.db {k : Nat} {D : Di} (h : DBk k D) (hk : k ≤ 900) : DB D.1 D.2.1 := ⟨by have := h.1; omega, h.2⟩
theorem DBk.up {k : Nat} {D : Di} (h : DBk k D) : DBk (k + 1) D := ⟨by have := h.1; omega, h.2⟩
theorem DBk_D0 (k : Nat) : DBk k D0 := ⟨Nat.zero_le _, fun _ => Nat.le_refl _⟩
theorem DBk_rs {k : Nat} {D : Di} (h : DBk k D) (x : Int32) : DBk (k + 1) (rsD D x) := by
  unfold rsD
  cases hv : rsI x
  · exact h.up
  · obtain ⟨q1, q2, q3⟩ := rsI_cl hv
    have := h.1
    exact ⟨by show D.1 + cl x ≤ _; omega, fun j => Nat.le_trans (h.2 j) (by show D.1 ≤ D.1 + cl x; omega)⟩
theorem DBk_ly {k : Nat} {D : Di} (h : DBk k D) (t : Nat → Nat) (len : Nat) : DBk (k + 1) (lyD t len D) := by
  unfold lyD
  split
  · exact DBk_D0 _
  · exact h.up
theorem DBk_reh {k : Nat} {D : Di} (h : DBk k D) (K : KT) (p i : Int32) : DBk (k + 1) (d_reh K D p i) := by
  unfold d_reh
  split
  · exact ⟨h.up.1, fun j => by
      show (if j = _ then D.1 else D.2.1 j) ≤ D.1
      split
      · exact Nat.le_refl _
      · exact h.2 j⟩
  · exact h.up
theorem DBk_nt {k : Nat} {D : Di} (h : DBk k D) (K : KT) (off : Int32) : DBk (k + 1) (ntD K D off) := by
  unfold ntD
  split
  · have := h.1
    exact ⟨by show D.1 + 1 ≤ _; omega, fun j => Nat.le_trans (ntS_le h.2 _ j) (by show D.1 ≤ D.1 + 1; omega)⟩
  · exact h.up
theorem DBk_k1 {k kp : Nat} {D D1 : Di} (h : DBk k D) (h1 : DBk k D1) : DBk (k + 1) (kpD1 D D1 kp) := by
  unfold kpD1
  split
  · exact h.up
  · exact h1.up
theorem DBk_k2 {k kp : Nat} {D D2 : Di} (h : DBk k D) (h1 : DBk k D2) : DBk (k + 1) (kpD2 D D2 kp) := by
  unfold kpD2
  split
  · exact h.up
  · exact h1.up
theorem DBk_bk {k kp : Nat} {D D1 D2 : Di} (h : DBk k D) (h1 : DBk k D1) (h2 : DBk k D2) : DBk (k + 1) (bkD D D1 D2 kp) := by
  unfold bkD
  split
  · exact h.up
  · split
    · exact h1.up
    · exact h2.up
theorem KC_ly {t : Nat → Nat} {len : Nat} {K : KT} (h : KC K) : KC (lyK t len K) := by
  unfold lyK
  split
  · exact (rdF_KC (t := t) (len := len) (len + 1) K0 0 KB_K0 KC_K0).2
  · exact h
theorem kpN_le {kp : Nat} (h : kp ≤ 2) : kpN kp ≤ 2 := by unfold kpN; split <;> omega
theorem lyN_le {t : Nat → Nat} {len kp : Nat} (h : kp ≤ 2) : lyN t len kp ≤ 2 := by unfold lyN; split <;> omega
def INV (k : Nat) (I : TI) (J : TJ) (R : TR) : Prop := ∃ (t : Nat → Nat) (len : Nat) (K : KT) (D D1 D2 : Di) (kp : Nat) (tl : Nat → Int32), CS t len K D D1 D2 kp tl I J R ∧ MS t len K D D1 D2 kp tl I ∧ KC K ∧ DBk k D ∧ DBk k D1 ∧ DBk k D2 ∧ kp ≤ 2
theorem inv_next {k : Nat} {t : Nat → Nat} {len : Nat} {K : KT} {D D1 D2 : Di} {kp : Nat} {tl : Nat → Int32} {I2 : TI} {J2 : TJ} (hCS : CS t len K D D1 D2 kp tl I J R) (hMS : MS t len K D D1 D2 kp tl I2) (h1 : ∀ x y, x < 70 → I2 x y = I x y) (h2 : ∀ x y, x ≠ 70 → J2 x y = J x y) (hKC : KC K) (ha : DBk (k + 1) D) (hb : DBk (k + 1) D1) (hc : DBk (k + 1) D2) (hk : kp ≤ 2) : INV (k + 1) I2 J2 R := ⟨t, len, K, D, D1, D2, kp, tl, hCS.lo h1 h2, hMS, hKC, ha, hb, hc, hk⟩
abbrev LL (k : Nat) : List (Option Value) := [some (.retAddr 0), some (.ref 0), some (.ref 70), some (.int (nI (4 * k)))]
end
section
variable {E : En} {Post : PT} {I : TI} {J : TJ} {R : TR} {k : Nat} {nm : String}
theorem lc_write (hN : eN E ≤ 2048) (hk : 4 * k + 4 ≤ eN E) (hV : INV k I J R) (nxt : ∀ I' J' R', INV (k + 1) I' J' R' → V E 2048 (M_L_law nm) Post 891 (LL k) [] NC 200 40000 I' J' R') : V E 2048 (M_L_law nm) Post 152 (LL k) [] NC 200 40000 I J R := by
  obtain ⟨t, len, K, D, D1, D2, kp, tl, hCS, hMS, hKC, hDa, hDb, hDc, hkp⟩ := hV
  have hB := hMS.1
  have hDB := hDa.db (by omega)
  have hD9 : D.1 ≤ 90000 := by have := hDa.1; omega
  have j1 : ix (nI (4 * k) + 1) (4 * k + 1) (eN E) := ⟨nI_1 _, by omega⟩
  have j2 : ix (nI (4 * k) + 2) (4 * k + 2) (eN E) := ⟨nI_add _ 2, by omega⟩
  have j3 : ix (nI (4 * k) + 3) (4 * k + 3) (eN E) := ⟨nI_add _ 3, by omega⟩
  refine V_aload_n dL_law_152 rfl rfl (V_aload_s dL_law_153 rfl (V_iload_n dL_law_154 rfl rfl (V_iconst (v := 1) dL_law_155 (by decide) (V_iadd dL_law_156 ?_))))
  refine V_sld rfl dL_law_157 hN j1 ?_
  refine V_aload_s dL_law_158 rfl (V_iload_n dL_law_159 rfl rfl (V_iconst (v := 2) dL_law_160 (by decide) (V_iadd dL_law_161 ?_)))
  refine V_sld rfl dL_law_162 hN j2 ?_
  refine V_i2l dL_law_163 (V_bipush (v := 32) dL_law_164 (by decide) (V_lshl dL_law_166 (V_aload_s dL_law_167 rfl (V_iload_n dL_law_168 rfl rfl (V_iconst (v := 3) dL_law_169 (by decide) ?_)))))
  refine V_iadd dL_law_170 ?_
  refine V_sld rfl dL_law_171 hN j3 ?_
  refine V_i2l dL_law_172 (V_ldc2_w dL_law_173 ct_L_13 (V_land dL_law_176 (V_lor dL_law_177 ?_)))
  refine V_cV2i (M' := M_X10_write) (d' := 20) dL_law_178 (Or.inl ml_L_15) kb_X10_write (by first | assumption | exact ⟨by decide, rfl⟩) (by first | decide | omega) (by simp [Value.category]) ⟨Nat.le_of_ble_eq_true rfl, Nat.le_of_ble_eq_true rfl⟩ ?_
  refine Cal.imp (fun v n' I1 J1 R1 h => ?_) (op_write hCS)
  obtain ⟨rfl, rfl, hCS1, hI1, hJ1⟩ := h
  obtain ⟨co, dr, cc, a1, a2, -, hRR, -⟩ := id hCS1
  subst hRR
  have hMS1 := hMS.hi hI1
  refine ⟨_, rfl, ?_⟩
  refine V_aload_n dL_law_181 rfl rfl (V_aload_s dL_law_182 rfl (V_iload_n dL_law_183 rfl rfl (V_iconst (v := 1) dL_law_184 (by decide) (V_iadd dL_law_185 ?_))))
  refine V_sld rfl dL_law_186 hN j1 ?_
  refine V_aload_s dL_law_187 rfl (V_iload_n dL_law_188 rfl rfl (V_iconst (v := 2) dL_law_189 (by decide) (V_iadd dL_law_190 ?_)))
  refine V_sld rfl dL_law_191 hN j2 ?_
  refine V_i2l dL_law_192 (V_bipush (v := 32) dL_law_193 (by decide) (V_lshl dL_law_195 (V_aload_s dL_law_196 rfl (V_iload_n dL_law_197 rfl rfl (V_iconst (v := 3) dL_law_198 (by decide) ?_)))))
  refine V_iadd dL_law_199 ?_
  refine V_sld rfl dL_law_200 hN j3 ?_
  refine V_i2l dL_law_201 (V_ldc2_w dL_law_202 ct_L_13 (V_land dL_law_205 (V_lor dL_law_206 ?_)))
  refine V_cV2i (M' := M_X11_write) (d' := 20) dL_law_207 (Or.inl ml_L_19) kb_X11_write (by first | assumption | exact ⟨by decide, rfl⟩) (by first | decide | omega) (by simp [Value.category]) ⟨Nat.le_of_ble_eq_true rfl, Nat.le_of_ble_eq_true rfl⟩ ?_
  refine Cal.imp (fun v n' I2 J2 R2 h => ?_) (rop_write (by omega) hMS1)
  obtain ⟨rfl, rfl, rfl, hMS2, hI2, hJ2⟩ := h
  refine ⟨_, rfl, ?_⟩
  refine V_icmp_eq_t (tgt := 891) dL_law_210 (by decide) (rfl) ?_
  exact nxt _ _ _ (inv_next hCS1 hMS2 hI2 hJ2 hKC hDa.up hDb.up hDc.up hkp)
theorem lc_wipe (hN : eN E ≤ 2048) (hk : 4 * k + 4 ≤ eN E) (hV : INV k I J R) (nxt : ∀ I' J' R', INV (k + 1) I' J' R' → V E 2048 (M_L_law nm) Post 891 (LL k) [] NC 200 40000 I' J' R') : V E 2048 (M_L_law nm) Post 215 (LL k) [] NC 200 40000 I J R := by
  obtain ⟨t, len, K, D, D1, D2, kp, tl, hCS, hMS, hKC, hDa, hDb, hDc, hkp⟩ := hV
  have hB := hMS.1
  have hDB := hDa.db (by omega)
  have hD9 : D.1 ≤ 90000 := by have := hDa.1; omega
  have j1 : ix (nI (4 * k) + 1) (4 * k + 1) (eN E) := ⟨nI_1 _, by omega⟩
  have j2 : ix (nI (4 * k) + 2) (4 * k + 2) (eN E) := ⟨nI_add _ 2, by omega⟩
  have j3 : ix (nI (4 * k) + 3) (4 * k + 3) (eN E) := ⟨nI_add _ 3, by omega⟩
  refine V_aload_n dL_law_215 rfl rfl ?_
  refine V_cV0i (M' := M_X10_wipe) (d' := 20) dL_law_216 (Or.inl ml_L_20) kb_X10_wipe (by first | assumption | exact ⟨by decide, rfl⟩) (by first | decide | omega) (by simp [Value.category]) ⟨Nat.le_of_ble_eq_true rfl, Nat.le_of_ble_eq_true rfl⟩ ?_
  refine Cal.imp (fun v n' I1 J1 R1 h => ?_) (op_wipe hCS)
  obtain ⟨rfl, rfl, hCS1, hI1, hJ1⟩ := h
  obtain ⟨co, dr, cc, a1, a2, -, hRR, -⟩ := id hCS1
  subst hRR
  have hMS1 := hMS.hi hI1
  refine ⟨_, rfl, ?_⟩
  refine V_aload_n dL_law_219 rfl rfl ?_
  refine V_cV0i (M' := M_X11_wipe) (d' := 20) dL_law_220 (Or.inl ml_L_24) kb_X11_wipe (by first | assumption | exact ⟨by decide, rfl⟩) (by first | decide | omega) (by simp [Value.category]) ⟨Nat.le_of_ble_eq_true rfl, Nat.le_of_ble_eq_true rfl⟩ ?_
  refine Cal.imp (fun v n' I2 J2 R2 h => ?_) (rop_wipe hMS1)
  obtain ⟨rfl, rfl, rfl, hMS2, hI2, hJ2⟩ := h
  refine ⟨_, rfl, ?_⟩
  refine V_icmp_eq_t (tgt := 891) dL_law_223 (by decide) (rfl) ?_
  exact nxt _ _ _ (inv_next hCS1 hMS2 hI2 hJ2 hKC hDa.up hDb.up hDc.up hkp)
theorem lc_fault (hN : eN E ≤ 2048) (hk : 4 * k + 4 ≤ eN E) (hV : INV k I J R) (nxt : ∀ I' J' R', INV (k + 1) I' J' R' → V E 2048 (M_L_law nm) Post 891 (LL k) [] NC 200 40000 I' J' R') : V E 2048 (M_L_law nm) Post 228 (LL k) [] NC 200 40000 I J R := by
  obtain ⟨t, len, K, D, D1, D2, kp, tl, hCS, hMS, hKC, hDa, hDb, hDc, hkp⟩ := hV
  have hB := hMS.1
  have hDB := hDa.db (by omega)
  have hD9 : D.1 ≤ 90000 := by have := hDa.1; omega
  have j1 : ix (nI (4 * k) + 1) (4 * k + 1) (eN E) := ⟨nI_1 _, by omega⟩
  have j2 : ix (nI (4 * k) + 2) (4 * k + 2) (eN E) := ⟨nI_add _ 2, by omega⟩
  have j3 : ix (nI (4 * k) + 3) (4 * k + 3) (eN E) := ⟨nI_add _ 3, by omega⟩
  refine V_aload_n dL_law_228 rfl rfl ?_
  refine V_cV0i (M' := M_X10_fault) (d' := 20) dL_law_229 (Or.inl ml_L_25) kb_X10_fault (by first | assumption | exact ⟨by decide, rfl⟩) (by first | decide | omega) (by simp [Value.category]) ⟨Nat.le_of_ble_eq_true rfl, Nat.le_of_ble_eq_true rfl⟩ ?_
  refine Cal.imp (fun v n' I1 J1 R1 h => ?_) (op_fault (by omega) hCS)
  obtain ⟨rfl, rfl, hCS1, hI1, hJ1⟩ := h
  obtain ⟨co, dr, cc, a1, a2, -, hRR, -⟩ := id hCS1
  subst hRR
  have hMS1 := hMS.hi hI1
  refine ⟨_, rfl, ?_⟩
  refine V_aload_n dL_law_232 rfl rfl ?_
  refine V_cV0i (M' := M_X11_fault) (d' := 20) dL_law_233 (Or.inl ml_L_28) kb_X11_fault (by first | assumption | exact ⟨by decide, rfl⟩) (by first | decide | omega) (by simp [Value.category]) ⟨Nat.le_of_ble_eq_true rfl, Nat.le_of_ble_eq_true rfl⟩ ?_
  refine Cal.imp (fun v n' I2 J2 R2 h => ?_) (rop_fault (by omega) hMS1)
  obtain ⟨rfl, rfl, rfl, hMS2, hI2, hJ2⟩ := h
  refine ⟨_, rfl, ?_⟩
  refine V_icmp_eq_t (tgt := 891) dL_law_236 (by decide) (rfl) ?_
  exact nxt _ _ _ (inv_next hCS1 hMS2 hI2 hJ2 hKC hDa.up hDb.up hDc.up hkp)
theorem lc_lay (hN : eN E ≤ 2048) (hk : 4 * k + 4 ≤ eN E) (hV : INV k I J R) (nxt : ∀ I' J' R', INV (k + 1) I' J' R' → V E 2048 (M_L_law nm) Post 891 (LL k) [] NC 200 40000 I' J' R') : V E 2048 (M_L_law nm) Post 241 (LL k) [] NC 200 40000 I J R := by
  obtain ⟨t, len, K, D, D1, D2, kp, tl, hCS, hMS, hKC, hDa, hDb, hDc, hkp⟩ := hV
  have hB := hMS.1
  have hDB := hDa.db (by omega)
  have hD9 : D.1 ≤ 90000 := by have := hDa.1; omega
  have j1 : ix (nI (4 * k) + 1) (4 * k + 1) (eN E) := ⟨nI_1 _, by omega⟩
  have j2 : ix (nI (4 * k) + 2) (4 * k + 2) (eN E) := ⟨nI_add _ 2, by omega⟩
  have j3 : ix (nI (4 * k) + 3) (4 * k + 3) (eN E) := ⟨nI_add _ 3, by omega⟩
  refine V_aload_n dL_law_241 rfl rfl ?_
  refine V_cV0i (M' := M_X10_lay) (d' := 20) dL_law_242 (Or.inl ml_L_29) kb_X10_lay (by first | assumption | exact ⟨by decide, rfl⟩) (by first | decide | omega) (by simp [Value.category]) ⟨Nat.le_of_ble_eq_true rfl, Nat.le_of_ble_eq_true rfl⟩ ?_
  refine Cal.imp (fun v n' I1 J1 R1 h => ?_) (op_lay (by omega) hCS)
  obtain ⟨rfl, rfl, hCS1, hI1, hJ1⟩ := h
  obtain ⟨co, dr, cc, a1, a2, -, hRR, -⟩ := id hCS1
  subst hRR
  have hMS1 := hMS.hi hI1
  refine ⟨_, rfl, ?_⟩
  refine V_aload_n dL_law_245 rfl rfl ?_
  refine V_cV0i (M' := M_X11_lay) (d' := 20) dL_law_246 (Or.inl ml_L_32) kb_X11_lay (by first | assumption | exact ⟨by decide, rfl⟩) (by first | decide | omega) (by simp [Value.category]) ⟨Nat.le_of_ble_eq_true rfl, Nat.le_of_ble_eq_true rfl⟩ ?_
  refine Cal.imp (fun v n' I2 J2 R2 h => ?_) (rop_lay (by omega) hMS1)
  obtain ⟨rfl, rfl, rfl, hMS2, hI2, hJ2⟩ := h
  refine ⟨_, rfl, ?_⟩
  refine V_icmp_eq_t (tgt := 891) dL_law_249 (by decide) (rfl) ?_
  exact nxt _ _ _ (inv_next hCS1 hMS2 hI2 hJ2 (KC_ly hKC) (DBk_ly hDa _ _) hDb.up hDc.up (lyN_le hkp))
theorem lc_player (hN : eN E ≤ 2048) (hk : 4 * k + 4 ≤ eN E) (hV : INV k I J R) (nxt : ∀ I' J' R', INV (k + 1) I' J' R' → V E 2048 (M_L_law nm) Post 891 (LL k) [] NC 200 40000 I' J' R') : V E 2048 (M_L_law nm) Post 254 (LL k) [] NC 200 40000 I J R := by
  obtain ⟨t, len, K, D, D1, D2, kp, tl, hCS, hMS, hKC, hDa, hDb, hDc, hkp⟩ := hV
  have hB := hMS.1
  have hDB := hDa.db (by omega)
  have hD9 : D.1 ≤ 90000 := by have := hDa.1; omega
  have j1 : ix (nI (4 * k) + 1) (4 * k + 1) (eN E) := ⟨nI_1 _, by omega⟩
  have j2 : ix (nI (4 * k) + 2) (4 * k + 2) (eN E) := ⟨nI_add _ 2, by omega⟩
  have j3 : ix (nI (4 * k) + 3) (4 * k + 3) (eN E) := ⟨nI_add _ 3, by omega⟩
  refine V_aload_n dL_law_254 rfl rfl (V_aload_s dL_law_255 rfl (V_iload_n dL_law_256 rfl rfl (V_iconst (v := 1) dL_law_257 (by decide) (V_iadd dL_law_258 ?_))))
  refine V_sld rfl dL_law_259 hN j1 ?_
  refine V_aload_s dL_law_260 rfl (V_iload_n dL_law_261 rfl rfl (V_iconst (v := 2) dL_law_262 (by decide) (V_iadd dL_law_263 ?_)))
  refine V_sld rfl dL_law_264 hN j2 ?_
  refine V_cV2i (M' := M_X10_player) (d' := 20) dL_law_265 (Or.inl ml_L_33) kb_X10_player (by first | assumption | exact ⟨by decide, rfl⟩) (by first | decide | omega) (by simp [Value.category]) ⟨Nat.le_of_ble_eq_true rfl, Nat.le_of_ble_eq_true rfl⟩ ?_
  refine Cal.imp (fun v n' I1 J1 R1 h => ?_) (op_player (by omega) hB hCS)
  obtain ⟨rfl, rfl, hCS1, hI1, hJ1⟩ := h
  obtain ⟨co, dr, cc, a1, a2, -, hRR, -⟩ := id hCS1
  subst hRR
  have hMS1 := hMS.hi hI1
  refine ⟨_, rfl, ?_⟩
  refine V_aload_n dL_law_268 rfl rfl (V_aload_s dL_law_269 rfl (V_iload_n dL_law_270 rfl rfl (V_iconst (v := 1) dL_law_271 (by decide) (V_iadd dL_law_272 ?_))))
  refine V_sld rfl dL_law_273 hN j1 ?_
  refine V_aload_s dL_law_274 rfl (V_iload_n dL_law_275 rfl rfl (V_iconst (v := 2) dL_law_276 (by decide) (V_iadd dL_law_277 ?_)))
  refine V_sld rfl dL_law_278 hN j2 ?_
  refine V_cV2i (M' := M_X11_player) (d' := 20) dL_law_279 (Or.inl ml_L_37) kb_X11_player (by first | assumption | exact ⟨by decide, rfl⟩) (by first | decide | omega) (by simp [Value.category]) ⟨Nat.le_of_ble_eq_true rfl, Nat.le_of_ble_eq_true rfl⟩ ?_
  refine Cal.imp (fun v n' I2 J2 R2 h => ?_) (rop_player (by omega) hMS1)
  obtain ⟨rfl, rfl, rfl, hMS2, hI2, hJ2⟩ := h
  refine ⟨_, rfl, ?_⟩
  refine V_icmp_eq_t (tgt := 891) dL_law_282 (by decide) (rfl) ?_
  exact nxt _ _ _ (inv_next hCS1 hMS2 hI2 hJ2 hKC hDa.up hDb.up hDc.up hkp)
theorem lc_part (hN : eN E ≤ 2048) (hk : 4 * k + 4 ≤ eN E) (hV : INV k I J R) (nxt : ∀ I' J' R', INV (k + 1) I' J' R' → V E 2048 (M_L_law nm) Post 891 (LL k) [] NC 200 40000 I' J' R') : V E 2048 (M_L_law nm) Post 287 (LL k) [] NC 200 40000 I J R := by
  obtain ⟨t, len, K, D, D1, D2, kp, tl, hCS, hMS, hKC, hDa, hDb, hDc, hkp⟩ := hV
  have hB := hMS.1
  have hDB := hDa.db (by omega)
  have hD9 : D.1 ≤ 90000 := by have := hDa.1; omega
  have j1 : ix (nI (4 * k) + 1) (4 * k + 1) (eN E) := ⟨nI_1 _, by omega⟩
  have j2 : ix (nI (4 * k) + 2) (4 * k + 2) (eN E) := ⟨nI_add _ 2, by omega⟩
  have j3 : ix (nI (4 * k) + 3) (4 * k + 3) (eN E) := ⟨nI_add _ 3, by omega⟩
  refine V_aload_n dL_law_287 rfl rfl (V_aload_s dL_law_288 rfl (V_iload_n dL_law_289 rfl rfl (V_iconst (v := 1) dL_law_290 (by decide) (V_iadd dL_law_291 ?_))))
  refine V_sld rfl dL_law_292 hN j1 ?_
  refine V_aload_s dL_law_293 rfl (V_iload_n dL_law_294 rfl rfl (V_iconst (v := 2) dL_law_295 (by decide) (V_iadd dL_law_296 ?_)))
  refine V_sld rfl dL_law_297 hN j2 ?_
  refine V_cV2i (M' := M_X10_part) (d' := 20) dL_law_298 (Or.inl ml_L_38) kb_X10_part (by first | assumption | exact ⟨by decide, rfl⟩) (by first | decide | omega) (by simp [Value.category]) ⟨Nat.le_of_ble_eq_true rfl, Nat.le_of_ble_eq_true rfl⟩ ?_
  refine Cal.imp (fun v n' I1 J1 R1 h => ?_) (op_part (by omega) hB hCS)
  obtain ⟨rfl, rfl, hCS1, hI1, hJ1⟩ := h
  obtain ⟨co, dr, cc, a1, a2, -, hRR, -⟩ := id hCS1
  subst hRR
  have hMS1 := hMS.hi hI1
  refine ⟨_, rfl, ?_⟩
  refine V_aload_n dL_law_301 rfl rfl (V_aload_s dL_law_302 rfl (V_iload_n dL_law_303 rfl rfl (V_iconst (v := 1) dL_law_304 (by decide) (V_iadd dL_law_305 ?_))))
  refine V_sld rfl dL_law_306 hN j1 ?_
  refine V_aload_s dL_law_307 rfl (V_iload_n dL_law_308 rfl rfl (V_iconst (v := 2) dL_law_309 (by decide) (V_iadd dL_law_310 ?_)))
  refine V_sld rfl dL_law_311 hN j2 ?_
  refine V_cV2i (M' := M_X11_part) (d' := 20) dL_law_312 (Or.inl ml_L_41) kb_X11_part (by first | assumption | exact ⟨by decide, rfl⟩) (by first | decide | omega) (by simp [Value.category]) ⟨Nat.le_of_ble_eq_true rfl, Nat.le_of_ble_eq_true rfl⟩ ?_
  refine Cal.imp (fun v n' I2 J2 R2 h => ?_) (rop_part (by omega) hMS1)
  obtain ⟨rfl, rfl, rfl, hMS2, hI2, hJ2⟩ := h
  refine ⟨_, rfl, ?_⟩
  refine V_icmp_eq_t (tgt := 891) dL_law_315 (by decide) (rfl) ?_
  exact nxt _ _ _ (inv_next hCS1 hMS2 hI2 hJ2 hKC hDa.up hDb.up hDc.up hkp)
theorem lc_both (hN : eN E ≤ 2048) (hk : 4 * k + 4 ≤ eN E) (hV : INV k I J R) (nxt : ∀ I' J' R', INV (k + 1) I' J' R' → V E 2048 (M_L_law nm) Post 891 (LL k) [] NC 200 40000 I' J' R') : V E 2048 (M_L_law nm) Post 320 (LL k) [] NC 200 40000 I J R := by
  obtain ⟨t, len, K, D, D1, D2, kp, tl, hCS, hMS, hKC, hDa, hDb, hDc, hkp⟩ := hV
  have hB := hMS.1
  have hDB := hDa.db (by omega)
  have hD9 : D.1 ≤ 90000 := by have := hDa.1; omega
  have j1 : ix (nI (4 * k) + 1) (4 * k + 1) (eN E) := ⟨nI_1 _, by omega⟩
  have j2 : ix (nI (4 * k) + 2) (4 * k + 2) (eN E) := ⟨nI_add _ 2, by omega⟩
  have j3 : ix (nI (4 * k) + 3) (4 * k + 3) (eN E) := ⟨nI_add _ 3, by omega⟩
  refine V_aload_n dL_law_320 rfl rfl (V_aload_s dL_law_321 rfl (V_iload_n dL_law_322 rfl rfl (V_iconst (v := 1) dL_law_323 (by decide) (V_iadd dL_law_324 ?_))))
  refine V_sld rfl dL_law_325 hN j1 ?_
  refine V_aload_s dL_law_326 rfl (V_iload_n dL_law_327 rfl rfl (V_iconst (v := 2) dL_law_328 (by decide) (V_iadd dL_law_329 ?_)))
  refine V_sld rfl dL_law_330 hN j2 ?_
  refine V_cV2i (M' := M_X10_both) (d' := 20) dL_law_331 (Or.inl ml_L_42) kb_X10_both (by first | assumption | exact ⟨by decide, rfl⟩) (by first | decide | omega) (by simp [Value.category]) ⟨Nat.le_of_ble_eq_true rfl, Nat.le_of_ble_eq_true rfl⟩ ?_
  refine Cal.imp (fun v n' I1 J1 R1 h => ?_) (op_both (by omega) hB hCS)
  obtain ⟨rfl, rfl, hCS1, hI1, hJ1⟩ := h
  obtain ⟨co, dr, cc, a1, a2, -, hRR, -⟩ := id hCS1
  subst hRR
  have hMS1 := hMS.hi hI1
  refine ⟨_, rfl, ?_⟩
  refine V_aload_n dL_law_334 rfl rfl (V_aload_s dL_law_335 rfl (V_iload_n dL_law_336 rfl rfl (V_iconst (v := 1) dL_law_337 (by decide) (V_iadd dL_law_338 ?_))))
  refine V_sld rfl dL_law_339 hN j1 ?_
  refine V_aload_s dL_law_340 rfl (V_iload_n dL_law_341 rfl rfl (V_iconst (v := 2) dL_law_342 (by decide) (V_iadd dL_law_343 ?_)))
  refine V_sld rfl dL_law_344 hN j2 ?_
  refine V_cV2i (M' := M_X11_both) (d' := 20) dL_law_345 (Or.inl ml_L_45) kb_X11_both (by first | assumption | exact ⟨by decide, rfl⟩) (by first | decide | omega) (by simp [Value.category]) ⟨Nat.le_of_ble_eq_true rfl, Nat.le_of_ble_eq_true rfl⟩ ?_
  refine Cal.imp (fun v n' I2 J2 R2 h => ?_) (rop_both (by omega) hMS1)
  obtain ⟨rfl, rfl, rfl, hMS2, hI2, hJ2⟩ := h
  refine ⟨_, rfl, ?_⟩
  refine V_icmp_eq_t (tgt := 891) dL_law_348 (by decide) (rfl) ?_
  exact nxt _ _ _ (inv_next hCS1 hMS2 hI2 hJ2 hKC hDa.up hDb.up hDc.up hkp)
theorem lc_ways (hN : eN E ≤ 2048) (hk : 4 * k + 4 ≤ eN E) (hV : INV k I J R) (nxt : ∀ I' J' R', INV (k + 1) I' J' R' → V E 2048 (M_L_law nm) Post 891 (LL k) [] NC 200 40000 I' J' R') : V E 2048 (M_L_law nm) Post 353 (LL k) [] NC 200 40000 I J R := by
  obtain ⟨t, len, K, D, D1, D2, kp, tl, hCS, hMS, hKC, hDa, hDb, hDc, hkp⟩ := hV
  have hB := hMS.1
  have hDB := hDa.db (by omega)
  have hD9 : D.1 ≤ 90000 := by have := hDa.1; omega
  have j1 : ix (nI (4 * k) + 1) (4 * k + 1) (eN E) := ⟨nI_1 _, by omega⟩
  have j2 : ix (nI (4 * k) + 2) (4 * k + 2) (eN E) := ⟨nI_add _ 2, by omega⟩
  have j3 : ix (nI (4 * k) + 3) (4 * k + 3) (eN E) := ⟨nI_add _ 3, by omega⟩
  refine V_aload_n dL_law_353 rfl rfl (V_aload_s dL_law_354 rfl (V_iload_n dL_law_355 rfl rfl (V_iconst (v := 1) dL_law_356 (by decide) (V_iadd dL_law_357 ?_))))
  refine V_sld rfl dL_law_358 hN j1 ?_
  refine V_aload_s dL_law_359 rfl (V_iload_n dL_law_360 rfl rfl (V_iconst (v := 2) dL_law_361 (by decide) (V_iadd dL_law_362 ?_)))
  refine V_sld rfl dL_law_363 hN j2 ?_
  refine V_cV2l (M' := M_X10_ways) (d' := 20) dL_law_364 (Or.inl ml_L_46) kb_X10_ways (by first | assumption | exact ⟨by decide, rfl⟩) (by first | decide | omega) (by simp [Value.category]) ⟨Nat.le_of_ble_eq_true rfl, Nat.le_of_ble_eq_true rfl⟩ ?_
  refine Cal.imp (fun v n' I1 J1 R1 h => ?_) (op_ways (by omega) hB hCS)
  obtain ⟨rfl, rfl, hCS1, hI1, hJ1⟩ := h
  obtain ⟨co, dr, cc, a1, a2, -, hRR, -⟩ := id hCS1
  subst hRR
  have hMS1 := hMS.hi hI1
  refine ⟨_, rfl, ?_⟩
  refine V_aload_n dL_law_367 rfl rfl (V_aload_s dL_law_368 rfl (V_iload_n dL_law_369 rfl rfl (V_iconst (v := 1) dL_law_370 (by decide) (V_iadd dL_law_371 ?_))))
  refine V_sld rfl dL_law_372 hN j1 ?_
  refine V_aload_s dL_law_373 rfl (V_iload_n dL_law_374 rfl rfl (V_iconst (v := 2) dL_law_375 (by decide) (V_iadd dL_law_376 ?_)))
  refine V_sld rfl dL_law_377 hN j2 ?_
  refine V_cV2l (M' := M_X11_ways) (d' := 20) dL_law_378 (Or.inl ml_L_50) kb_X11_ways (by first | assumption | exact ⟨by decide, rfl⟩) (by first | decide | omega) (by simp [Value.category]) ⟨Nat.le_of_ble_eq_true rfl, Nat.le_of_ble_eq_true rfl⟩ ?_
  refine Cal.imp (fun v n' I2 J2 R2 h => ?_) (rop_ways (by omega) hDB hMS1)
  obtain ⟨rfl, rfl, rfl, hMS2, hI2, hJ2⟩ := h
  refine ⟨_, rfl, ?_⟩
  refine V_lcmp dL_law_381 ?_
  refine V_if_eq_t (tgt := 891) dL_law_382 (by decide) ((lg_cmp_eq _ _).mpr rfl) ?_
  exact nxt _ _ _ (inv_next hCS1 hMS2 hI2 hJ2 hKC hDa.up hDb.up hDc.up hkp)
theorem lc_least (hN : eN E ≤ 2048) (hk : 4 * k + 4 ≤ eN E) (hV : INV k I J R) (nxt : ∀ I' J' R', INV (k + 1) I' J' R' → V E 2048 (M_L_law nm) Post 891 (LL k) [] NC 200 40000 I' J' R') : V E 2048 (M_L_law nm) Post 387 (LL k) [] NC 200 40000 I J R := by
  obtain ⟨t, len, K, D, D1, D2, kp, tl, hCS, hMS, hKC, hDa, hDb, hDc, hkp⟩ := hV
  have hB := hMS.1
  have hDB := hDa.db (by omega)
  have hD9 : D.1 ≤ 90000 := by have := hDa.1; omega
  have j1 : ix (nI (4 * k) + 1) (4 * k + 1) (eN E) := ⟨nI_1 _, by omega⟩
  have j2 : ix (nI (4 * k) + 2) (4 * k + 2) (eN E) := ⟨nI_add _ 2, by omega⟩
  have j3 : ix (nI (4 * k) + 3) (4 * k + 3) (eN E) := ⟨nI_add _ 3, by omega⟩
  refine V_aload_n dL_law_387 rfl rfl (V_aload_s dL_law_388 rfl (V_iload_n dL_law_389 rfl rfl (V_iconst (v := 1) dL_law_390 (by decide) (V_iadd dL_law_391 ?_))))
  refine V_sld rfl dL_law_392 hN j1 ?_
  refine V_aload_s dL_law_393 rfl (V_iload_n dL_law_394 rfl rfl (V_iconst (v := 2) dL_law_395 (by decide) (V_iadd dL_law_396 ?_)))
  refine V_sld rfl dL_law_397 hN j2 ?_
  refine V_aload_s dL_law_398 rfl (V_iload_n dL_law_399 rfl rfl (V_iconst (v := 3) dL_law_400 (by decide) (V_iadd dL_law_401 ?_)))
  refine V_sld rfl dL_law_402 hN j3 ?_
  refine V_cV3i (M' := M_X10_least) (d' := 20) dL_law_403 (Or.inl ml_L_51) kb_X10_least (by first | assumption | exact ⟨by decide, rfl⟩) (by first | decide | omega) (by simp [Value.category]) ⟨Nat.le_of_ble_eq_true rfl, Nat.le_of_ble_eq_true rfl⟩ ?_
  refine Cal.imp (fun v n' I1 J1 R1 h => ?_) (op_least (by omega) hB hDB hCS)
  obtain ⟨rfl, rfl, hCS1, hI1, hJ1⟩ := h
  obtain ⟨co, dr, cc, a1, a2, -, hRR, -⟩ := id hCS1
  subst hRR
  have hMS1 := hMS.hi hI1
  refine ⟨_, rfl, ?_⟩
  refine V_aload_n dL_law_406 rfl rfl (V_aload_s dL_law_407 rfl (V_iload_n dL_law_408 rfl rfl (V_iconst (v := 1) dL_law_409 (by decide) (V_iadd dL_law_410 ?_))))
  refine V_sld rfl dL_law_411 hN j1 ?_
  refine V_aload_s dL_law_412 rfl (V_iload_n dL_law_413 rfl rfl (V_iconst (v := 2) dL_law_414 (by decide) (V_iadd dL_law_415 ?_)))
  refine V_sld rfl dL_law_416 hN j2 ?_
  refine V_aload_s dL_law_417 rfl (V_iload_n dL_law_418 rfl rfl (V_iconst (v := 3) dL_law_419 (by decide) (V_iadd dL_law_420 ?_)))
  refine V_sld rfl dL_law_421 hN j3 ?_
  refine V_cV3i (M' := M_X11_least) (d' := 20) dL_law_422 (Or.inl ml_L_55) kb_X11_least (by first | assumption | exact ⟨by decide, rfl⟩) (by first | decide | omega) (by simp [Value.category]) ⟨Nat.le_of_ble_eq_true rfl, Nat.le_of_ble_eq_true rfl⟩ ?_
  refine Cal.imp (fun v n' I2 J2 R2 h => ?_) (rop_least (by omega) hDB hMS1)
  obtain ⟨rfl, rfl, rfl, hMS2, hI2, hJ2⟩ := h
  refine ⟨_, rfl, ?_⟩
  refine V_icmp_eq_t (tgt := 891) dL_law_425 (by decide) (rfl) ?_
  exact nxt _ _ _ (inv_next hCS1 hMS2 hI2 hJ2 hKC hDa.up hDb.up hDc.up hkp)
theorem lc_cuts (hN : eN E ≤ 2048) (hk : 4 * k + 4 ≤ eN E) (hV : INV k I J R) (nxt : ∀ I' J' R', INV (k + 1) I' J' R' → V E 2048 (M_L_law nm) Post 891 (LL k) [] NC 200 40000 I' J' R') : V E 2048 (M_L_law nm) Post 430 (LL k) [] NC 200 40000 I J R := by
  obtain ⟨t, len, K, D, D1, D2, kp, tl, hCS, hMS, hKC, hDa, hDb, hDc, hkp⟩ := hV
  have hB := hMS.1
  have hDB := hDa.db (by omega)
  have hD9 : D.1 ≤ 90000 := by have := hDa.1; omega
  have j1 : ix (nI (4 * k) + 1) (4 * k + 1) (eN E) := ⟨nI_1 _, by omega⟩
  have j2 : ix (nI (4 * k) + 2) (4 * k + 2) (eN E) := ⟨nI_add _ 2, by omega⟩
  have j3 : ix (nI (4 * k) + 3) (4 * k + 3) (eN E) := ⟨nI_add _ 3, by omega⟩
  refine V_aload_n dL_law_430 rfl rfl (V_aload_s dL_law_431 rfl (V_iload_n dL_law_432 rfl rfl (V_iconst (v := 1) dL_law_433 (by decide) (V_iadd dL_law_434 ?_))))
  refine V_sld rfl dL_law_435 hN j1 ?_
  refine V_aload_s dL_law_436 rfl (V_iload_n dL_law_437 rfl rfl (V_iconst (v := 2) dL_law_438 (by decide) (V_iadd dL_law_439 ?_)))
  refine V_sld rfl dL_law_440 hN j2 ?_
  refine V_cV2i (M' := M_X10_cuts) (d' := 20) dL_law_441 (Or.inl ml_L_56) kb_X10_cuts (by first | assumption | exact ⟨by decide, rfl⟩) (by first | decide | omega) (by simp [Value.category]) ⟨Nat.le_of_ble_eq_true rfl, Nat.le_of_ble_eq_true rfl⟩ ?_
  refine Cal.imp (fun v n' I1 J1 R1 h => ?_) (op_cuts (by omega) hB hCS)
  obtain ⟨rfl, rfl, hCS1, hI1, hJ1⟩ := h
  obtain ⟨co, dr, cc, a1, a2, -, hRR, -⟩ := id hCS1
  subst hRR
  have hMS1 := hMS.hi hI1
  refine ⟨_, rfl, ?_⟩
  refine V_aload_n dL_law_444 rfl rfl (V_aload_s dL_law_445 rfl (V_iload_n dL_law_446 rfl rfl (V_iconst (v := 1) dL_law_447 (by decide) (V_iadd dL_law_448 ?_))))
  refine V_sld rfl dL_law_449 hN j1 ?_
  refine V_aload_s dL_law_450 rfl (V_iload_n dL_law_451 rfl rfl (V_iconst (v := 2) dL_law_452 (by decide) (V_iadd dL_law_453 ?_)))
  refine V_sld rfl dL_law_454 hN j2 ?_
  refine V_cV2i (M' := M_X11_cuts) (d' := 20) dL_law_455 (Or.inl ml_L_59) kb_X11_cuts (by first | assumption | exact ⟨by decide, rfl⟩) (by first | decide | omega) (by simp [Value.category]) ⟨Nat.le_of_ble_eq_true rfl, Nat.le_of_ble_eq_true rfl⟩ ?_
  refine Cal.imp (fun v n' I2 J2 R2 h => ?_) (rop_cuts (by omega) hDB hMS1)
  obtain ⟨rfl, rfl, rfl, hMS2, hI2, hJ2⟩ := h
  refine ⟨_, rfl, ?_⟩
  refine V_icmp_eq_t (tgt := 891) dL_law_458 (by decide) (rfl) ?_
  exact nxt _ _ _ (inv_next hCS1 hMS2 hI2 hJ2 hKC hDa.up hDb.up hDc.up hkp)
theorem lc_lines (hN : eN E ≤ 2048) (hk : 4 * k + 4 ≤ eN E) (hV : INV k I J R) (nxt : ∀ I' J' R', INV (k + 1) I' J' R' → V E 2048 (M_L_law nm) Post 891 (LL k) [] NC 200 40000 I' J' R') : V E 2048 (M_L_law nm) Post 463 (LL k) [] NC 200 40000 I J R := by
  obtain ⟨t, len, K, D, D1, D2, kp, tl, hCS, hMS, hKC, hDa, hDb, hDc, hkp⟩ := hV
  have hB := hMS.1
  have hDB := hDa.db (by omega)
  have hD9 : D.1 ≤ 90000 := by have := hDa.1; omega
  have j1 : ix (nI (4 * k) + 1) (4 * k + 1) (eN E) := ⟨nI_1 _, by omega⟩
  have j2 : ix (nI (4 * k) + 2) (4 * k + 2) (eN E) := ⟨nI_add _ 2, by omega⟩
  have j3 : ix (nI (4 * k) + 3) (4 * k + 3) (eN E) := ⟨nI_add _ 3, by omega⟩
  refine V_aload_n dL_law_463 rfl rfl (V_aload_s dL_law_464 rfl (V_iload_n dL_law_465 rfl rfl (V_iconst (v := 1) dL_law_466 (by decide) (V_iadd dL_law_467 ?_))))
  refine V_sld rfl dL_law_468 hN j1 ?_
  refine V_aload_s dL_law_469 rfl (V_iload_n dL_law_470 rfl rfl (V_iconst (v := 2) dL_law_471 (by decide) (V_iadd dL_law_472 ?_)))
  refine V_sld rfl dL_law_473 hN j2 ?_
  refine V_cV2i (M' := M_X10_lines) (d' := 20) dL_law_474 (Or.inl ml_L_60) kb_X10_lines (by first | assumption | exact ⟨by decide, rfl⟩) (by first | decide | omega) (by simp [Value.category]) ⟨Nat.le_of_ble_eq_true rfl, Nat.le_of_ble_eq_true rfl⟩ ?_
  refine Cal.imp (fun v n' I1 J1 R1 h => ?_) (op_lines (by omega) hB hDB hCS)
  obtain ⟨rfl, rfl, hCS1, hI1, hJ1⟩ := h
  obtain ⟨co, dr, cc, a1, a2, -, hRR, -⟩ := id hCS1
  subst hRR
  have hMS1 := hMS.hi hI1
  refine ⟨_, rfl, ?_⟩
  refine V_aload_n dL_law_477 rfl rfl (V_aload_s dL_law_478 rfl (V_iload_n dL_law_479 rfl rfl (V_iconst (v := 1) dL_law_480 (by decide) (V_iadd dL_law_481 ?_))))
  refine V_sld rfl dL_law_482 hN j1 ?_
  refine V_aload_s dL_law_483 rfl (V_iload_n dL_law_484 rfl rfl (V_iconst (v := 2) dL_law_485 (by decide) (V_iadd dL_law_486 ?_)))
  refine V_sld rfl dL_law_487 hN j2 ?_
  refine V_cV2i (M' := M_X11_lines) (d' := 20) dL_law_488 (Or.inl ml_L_63) kb_X11_lines (by first | assumption | exact ⟨by decide, rfl⟩) (by first | decide | omega) (by simp [Value.category]) ⟨Nat.le_of_ble_eq_true rfl, Nat.le_of_ble_eq_true rfl⟩ ?_
  refine Cal.imp (fun v n' I2 J2 R2 h => ?_) (rop_lines (by omega) hDB hMS1)
  obtain ⟨rfl, rfl, rfl, hMS2, hI2, hJ2⟩ := h
  refine ⟨_, rfl, ?_⟩
  refine V_icmp_eq_t (tgt := 891) dL_law_491 (by decide) (rfl) ?_
  exact nxt _ _ _ (inv_next hCS1 hMS2 hI2 hJ2 hKC hDa.up hDb.up hDc.up hkp)
theorem lc_rehearse (hN : eN E ≤ 2048) (hk : 4 * k + 4 ≤ eN E) (hV : INV k I J R) (nxt : ∀ I' J' R', INV (k + 1) I' J' R' → V E 2048 (M_L_law nm) Post 891 (LL k) [] NC 200 40000 I' J' R') : V E 2048 (M_L_law nm) Post 496 (LL k) [] NC 200 40000 I J R := by
  obtain ⟨t, len, K, D, D1, D2, kp, tl, hCS, hMS, hKC, hDa, hDb, hDc, hkp⟩ := hV
  have hB := hMS.1
  have hDB := hDa.db (by omega)
  have hD9 : D.1 ≤ 90000 := by have := hDa.1; omega
  have j1 : ix (nI (4 * k) + 1) (4 * k + 1) (eN E) := ⟨nI_1 _, by omega⟩
  have j2 : ix (nI (4 * k) + 2) (4 * k + 2) (eN E) := ⟨nI_add _ 2, by omega⟩
  have j3 : ix (nI (4 * k) + 3) (4 * k + 3) (eN E) := ⟨nI_add _ 3, by omega⟩
  refine V_aload_n dL_law_496 rfl rfl (V_aload_s dL_law_497 rfl (V_iload_n dL_law_498 rfl rfl (V_iconst (v := 1) dL_law_499 (by decide) (V_iadd dL_law_500 ?_))))
  refine V_sld rfl dL_law_501 hN j1 ?_
  refine V_aload_s dL_law_502 rfl (V_iload_n dL_law_503 rfl rfl (V_iconst (v := 2) dL_law_504 (by decide) (V_iadd dL_law_505 ?_)))
  refine V_sld rfl dL_law_506 hN j2 ?_
  refine V_cV2i (M' := M_X10_rehearse) (d' := 20) dL_law_507 (Or.inl ml_L_64) kb_X10_rehearse (by first | assumption | exact ⟨by decide, rfl⟩) (by first | decide | omega) (by simp [Value.category]) ⟨Nat.le_of_ble_eq_true rfl, Nat.le_of_ble_eq_true rfl⟩ ?_
  refine Cal.imp (fun v n' I1 J1 R1 h => ?_) (op_rehearse (by omega) hB hCS)
  obtain ⟨rfl, rfl, hCS1, hI1, hJ1⟩ := h
  obtain ⟨co, dr, cc, a1, a2, -, hRR, -⟩ := id hCS1
  subst hRR
  have hMS1 := hMS.hi hI1
  refine ⟨_, rfl, ?_⟩
  refine V_aload_n dL_law_510 rfl rfl (V_aload_s dL_law_511 rfl (V_iload_n dL_law_512 rfl rfl (V_iconst (v := 1) dL_law_513 (by decide) (V_iadd dL_law_514 ?_))))
  refine V_sld rfl dL_law_515 hN j1 ?_
  refine V_aload_s dL_law_516 rfl (V_iload_n dL_law_517 rfl rfl (V_iconst (v := 2) dL_law_518 (by decide) (V_iadd dL_law_519 ?_)))
  refine V_sld rfl dL_law_520 hN j2 ?_
  refine V_cV2i (M' := M_X11_rehearse) (d' := 20) dL_law_521 (Or.inl ml_L_67) kb_X11_rehearse (by first | assumption | exact ⟨by decide, rfl⟩) (by first | decide | omega) (by simp [Value.category]) ⟨Nat.le_of_ble_eq_true rfl, Nat.le_of_ble_eq_true rfl⟩ ?_
  refine Cal.imp (fun v n' I2 J2 R2 h => ?_) (rop_rehearse (by omega) hMS1)
  obtain ⟨rfl, rfl, rfl, hMS2, hI2, hJ2⟩ := h
  refine ⟨_, rfl, ?_⟩
  refine V_icmp_eq_t (tgt := 891) dL_law_524 (by decide) (rfl) ?_
  exact nxt _ _ _ (inv_next hCS1 hMS2 hI2 hJ2 hKC (DBk_reh hDa _ _ _) hDb.up hDc.up hkp)
theorem lc_rehearsals (hN : eN E ≤ 2048) (hk : 4 * k + 4 ≤ eN E) (hV : INV k I J R) (nxt : ∀ I' J' R', INV (k + 1) I' J' R' → V E 2048 (M_L_law nm) Post 891 (LL k) [] NC 200 40000 I' J' R') : V E 2048 (M_L_law nm) Post 529 (LL k) [] NC 200 40000 I J R := by
  obtain ⟨t, len, K, D, D1, D2, kp, tl, hCS, hMS, hKC, hDa, hDb, hDc, hkp⟩ := hV
  have hB := hMS.1
  have hDB := hDa.db (by omega)
  have hD9 : D.1 ≤ 90000 := by have := hDa.1; omega
  have j1 : ix (nI (4 * k) + 1) (4 * k + 1) (eN E) := ⟨nI_1 _, by omega⟩
  have j2 : ix (nI (4 * k) + 2) (4 * k + 2) (eN E) := ⟨nI_add _ 2, by omega⟩
  have j3 : ix (nI (4 * k) + 3) (4 * k + 3) (eN E) := ⟨nI_add _ 3, by omega⟩
  refine V_aload_n dL_law_529 rfl rfl (V_aload_s dL_law_530 rfl (V_iload_n dL_law_531 rfl rfl (V_iconst (v := 1) dL_law_532 (by decide) (V_iadd dL_law_533 ?_))))
  refine V_sld rfl dL_law_534 hN j1 ?_
  refine V_aload_s dL_law_535 rfl (V_iload_n dL_law_536 rfl rfl (V_iconst (v := 2) dL_law_537 (by decide) (V_iadd dL_law_538 ?_)))
  refine V_sld rfl dL_law_539 hN j2 ?_
  refine V_cV2i (M' := M_X10_rehearsals) (d' := 20) dL_law_540 (Or.inl ml_L_68) kb_X10_rehearsals (by first | assumption | exact ⟨by decide, rfl⟩) (by first | decide | omega) (by simp [Value.category]) ⟨Nat.le_of_ble_eq_true rfl, Nat.le_of_ble_eq_true rfl⟩ ?_
  refine Cal.imp (fun v n' I1 J1 R1 h => ?_) (op_rehearsals (by omega) hB hKC hDB hCS)
  obtain ⟨rfl, rfl, hCS1, hI1, hJ1⟩ := h
  obtain ⟨co, dr, cc, a1, a2, -, hRR, -⟩ := id hCS1
  subst hRR
  have hMS1 := hMS.hi hI1
  refine ⟨_, rfl, ?_⟩
  refine V_aload_n dL_law_543 rfl rfl (V_aload_s dL_law_544 rfl (V_iload_n dL_law_545 rfl rfl (V_iconst (v := 1) dL_law_546 (by decide) (V_iadd dL_law_547 ?_))))
  refine V_sld rfl dL_law_548 hN j1 ?_
  refine V_aload_s dL_law_549 rfl (V_iload_n dL_law_550 rfl rfl (V_iconst (v := 2) dL_law_551 (by decide) (V_iadd dL_law_552 ?_)))
  refine V_sld rfl dL_law_553 hN j2 ?_
  refine V_cV2i (M' := M_X11_rehearsals) (d' := 20) dL_law_554 (Or.inl ml_L_71) kb_X11_rehearsals (by first | assumption | exact ⟨by decide, rfl⟩) (by first | decide | omega) (by simp [Value.category]) ⟨Nat.le_of_ble_eq_true rfl, Nat.le_of_ble_eq_true rfl⟩ ?_
  refine Cal.imp (fun v n' I2 J2 R2 h => ?_) (rop_rehearsals (by omega) hDB hMS1)
  obtain ⟨rfl, rfl, rfl, hMS2, hI2, hJ2⟩ := h
  refine ⟨_, rfl, ?_⟩
  refine V_icmp_eq_t (tgt := 891) dL_law_557 (by decide) (rfl) ?_
  exact nxt _ _ _ (inv_next hCS1 hMS2 hI2 hJ2 hKC hDa.up hDb.up hDc.up hkp)
theorem lc_rest (hN : eN E ≤ 2048) (hk : 4 * k + 4 ≤ eN E) (hV : INV k I J R) (nxt : ∀ I' J' R', INV (k + 1) I' J' R' → V E 2048 (M_L_law nm) Post 891 (LL k) [] NC 200 40000 I' J' R') : V E 2048 (M_L_law nm) Post 562 (LL k) [] NC 200 40000 I J R := by
  obtain ⟨t, len, K, D, D1, D2, kp, tl, hCS, hMS, hKC, hDa, hDb, hDc, hkp⟩ := hV
  have hB := hMS.1
  have hDB := hDa.db (by omega)
  have hD9 : D.1 ≤ 90000 := by have := hDa.1; omega
  have j1 : ix (nI (4 * k) + 1) (4 * k + 1) (eN E) := ⟨nI_1 _, by omega⟩
  have j2 : ix (nI (4 * k) + 2) (4 * k + 2) (eN E) := ⟨nI_add _ 2, by omega⟩
  have j3 : ix (nI (4 * k) + 3) (4 * k + 3) (eN E) := ⟨nI_add _ 3, by omega⟩
  refine V_aload_n dL_law_562 rfl rfl (V_aload_s dL_law_563 rfl (V_iload_n dL_law_564 rfl rfl (V_iconst (v := 1) dL_law_565 (by decide) (V_iadd dL_law_566 ?_))))
  refine V_sld rfl dL_law_567 hN j1 ?_
  refine V_cV1i (M' := M_X10_rest) (d' := 20) dL_law_568 (Or.inl ml_L_72) kb_X10_rest (by first | assumption | exact ⟨by decide, rfl⟩) (by first | decide | omega) (by simp [Value.category]) ⟨Nat.le_of_ble_eq_true rfl, Nat.le_of_ble_eq_true rfl⟩ ?_
  refine Cal.imp (fun v n' I1 J1 R1 h => ?_) (op_rest hCS)
  obtain ⟨rfl, rfl, hCS1, hI1, hJ1⟩ := h
  obtain ⟨co, dr, cc, a1, a2, -, hRR, -⟩ := id hCS1
  subst hRR
  have hMS1 := hMS.hi hI1
  refine ⟨_, rfl, ?_⟩
  refine V_aload_n dL_law_571 rfl rfl (V_aload_s dL_law_572 rfl (V_iload_n dL_law_573 rfl rfl (V_iconst (v := 1) dL_law_574 (by decide) (V_iadd dL_law_575 ?_))))
  refine V_sld rfl dL_law_576 hN j1 ?_
  refine V_cV1i (M' := M_X11_rest) (d' := 20) dL_law_577 (Or.inl ml_L_76) kb_X11_rest (by first | assumption | exact ⟨by decide, rfl⟩) (by first | decide | omega) (by simp [Value.category]) ⟨Nat.le_of_ble_eq_true rfl, Nat.le_of_ble_eq_true rfl⟩ ?_
  refine Cal.imp (fun v n' I2 J2 R2 h => ?_) (rop_rest (by omega) hMS1)
  obtain ⟨rfl, rfl, rfl, hMS2, hI2, hJ2⟩ := h
  refine ⟨_, rfl, ?_⟩
  refine V_icmp_eq_t (tgt := 891) dL_law_580 (by decide) (rfl) ?_
  exact nxt _ _ _ (inv_next hCS1 hMS2 hI2 hJ2 hKC (DBk_rs hDa _) hDb.up hDc.up hkp)
theorem lc_cold (hN : eN E ≤ 2048) (hk : 4 * k + 4 ≤ eN E) (hV : INV k I J R) (nxt : ∀ I' J' R', INV (k + 1) I' J' R' → V E 2048 (M_L_law nm) Post 891 (LL k) [] NC 200 40000 I' J' R') : V E 2048 (M_L_law nm) Post 585 (LL k) [] NC 200 40000 I J R := by
  obtain ⟨t, len, K, D, D1, D2, kp, tl, hCS, hMS, hKC, hDa, hDb, hDc, hkp⟩ := hV
  have hB := hMS.1
  have hDB := hDa.db (by omega)
  have hD9 : D.1 ≤ 90000 := by have := hDa.1; omega
  have j1 : ix (nI (4 * k) + 1) (4 * k + 1) (eN E) := ⟨nI_1 _, by omega⟩
  have j2 : ix (nI (4 * k) + 2) (4 * k + 2) (eN E) := ⟨nI_add _ 2, by omega⟩
  have j3 : ix (nI (4 * k) + 3) (4 * k + 3) (eN E) := ⟨nI_add _ 3, by omega⟩
  refine V_aload_n dL_law_585 rfl rfl (V_aload_s dL_law_586 rfl (V_iload_n dL_law_587 rfl rfl (V_iconst (v := 1) dL_law_588 (by decide) (V_iadd dL_law_589 ?_))))
  refine V_sld rfl dL_law_590 hN j1 ?_
  refine V_aload_s dL_law_591 rfl (V_iload_n dL_law_592 rfl rfl (V_iconst (v := 2) dL_law_593 (by decide) (V_iadd dL_law_594 ?_)))
  refine V_sld rfl dL_law_595 hN j2 ?_
  refine V_aload_s dL_law_596 rfl (V_iload_n dL_law_597 rfl rfl (V_iconst (v := 3) dL_law_598 (by decide) (V_iadd dL_law_599 ?_)))
  refine V_sld rfl dL_law_600 hN j3 ?_
  refine V_cV3i (M' := M_X10_cold) (d' := 20) dL_law_601 (Or.inl ml_L_77) kb_X10_cold (by first | assumption | exact ⟨by decide, rfl⟩) (by first | decide | omega) (by simp [Value.category]) ⟨Nat.le_of_ble_eq_true rfl, Nat.le_of_ble_eq_true rfl⟩ ?_
  refine Cal.imp (fun v n' I1 J1 R1 h => ?_) (op_cold (by omega) hB hCS)
  obtain ⟨rfl, rfl, hCS1, hI1, hJ1⟩ := h
  obtain ⟨co, dr, cc, a1, a2, -, hRR, -⟩ := id hCS1
  subst hRR
  have hMS1 := hMS.hi hI1
  refine ⟨_, rfl, ?_⟩
  refine V_aload_n dL_law_604 rfl rfl (V_aload_s dL_law_605 rfl (V_iload_n dL_law_606 rfl rfl (V_iconst (v := 1) dL_law_607 (by decide) (V_iadd dL_law_608 ?_))))
  refine V_sld rfl dL_law_609 hN j1 ?_
  refine V_aload_s dL_law_610 rfl (V_iload_n dL_law_611 rfl rfl (V_iconst (v := 2) dL_law_612 (by decide) (V_iadd dL_law_613 ?_)))
  refine V_sld rfl dL_law_614 hN j2 ?_
  refine V_aload_s dL_law_615 rfl (V_iload_n dL_law_616 rfl rfl (V_iconst (v := 3) dL_law_617 (by decide) (V_iadd dL_law_618 ?_)))
  refine V_sld rfl dL_law_619 hN j3 ?_
  refine V_cV3i (M' := M_X11_cold) (d' := 20) dL_law_620 (Or.inl ml_L_80) kb_X11_cold (by first | assumption | exact ⟨by decide, rfl⟩) (by first | decide | omega) (by simp [Value.category]) ⟨Nat.le_of_ble_eq_true rfl, Nat.le_of_ble_eq_true rfl⟩ ?_
  refine Cal.imp (fun v n' I2 J2 R2 h => ?_) (rop_cold (by omega) hDB hMS1)
  obtain ⟨rfl, rfl, rfl, hMS2, hI2, hJ2⟩ := h
  refine ⟨_, rfl, ?_⟩
  refine V_icmp_eq_t (tgt := 891) dL_law_623 (by decide) (rfl) ?_
  exact nxt _ _ _ (inv_next hCS1 hMS2 hI2 hJ2 hKC hDa.up hDb.up hDc.up hkp)
theorem lc_weak (hN : eN E ≤ 2048) (hk : 4 * k + 4 ≤ eN E) (hV : INV k I J R) (nxt : ∀ I' J' R', INV (k + 1) I' J' R' → V E 2048 (M_L_law nm) Post 891 (LL k) [] NC 200 40000 I' J' R') : V E 2048 (M_L_law nm) Post 628 (LL k) [] NC 200 40000 I J R := by
  obtain ⟨t, len, K, D, D1, D2, kp, tl, hCS, hMS, hKC, hDa, hDb, hDc, hkp⟩ := hV
  have hB := hMS.1
  have hDB := hDa.db (by omega)
  have hD9 : D.1 ≤ 90000 := by have := hDa.1; omega
  have j1 : ix (nI (4 * k) + 1) (4 * k + 1) (eN E) := ⟨nI_1 _, by omega⟩
  have j2 : ix (nI (4 * k) + 2) (4 * k + 2) (eN E) := ⟨nI_add _ 2, by omega⟩
  have j3 : ix (nI (4 * k) + 3) (4 * k + 3) (eN E) := ⟨nI_add _ 3, by omega⟩
  refine V_aload_n dL_law_628 rfl rfl (V_aload_s dL_law_629 rfl (V_iload_n dL_law_630 rfl rfl (V_iconst (v := 1) dL_law_631 (by decide) (V_iadd dL_law_632 ?_))))
  refine V_sld rfl dL_law_633 hN j1 ?_
  refine V_aload_s dL_law_634 rfl (V_iload_n dL_law_635 rfl rfl (V_iconst (v := 2) dL_law_636 (by decide) (V_iadd dL_law_637 ?_)))
  refine V_sld rfl dL_law_638 hN j2 ?_
  refine V_cV2i (M' := M_X10_weak) (d' := 20) dL_law_639 (Or.inl ml_L_81) kb_X10_weak (by first | assumption | exact ⟨by decide, rfl⟩) (by first | decide | omega) (by simp [Value.category]) ⟨Nat.le_of_ble_eq_true rfl, Nat.le_of_ble_eq_true rfl⟩ ?_
  refine Cal.imp (fun v n' I1 J1 R1 h => ?_) (op_weak (by omega) hB hCS)
  obtain ⟨rfl, rfl, hCS1, hI1, hJ1⟩ := h
  obtain ⟨co, dr, cc, a1, a2, -, hRR, -⟩ := id hCS1
  subst hRR
  have hMS1 := hMS.hi hI1
  refine ⟨_, rfl, ?_⟩
  refine V_aload_n dL_law_642 rfl rfl (V_aload_s dL_law_643 rfl (V_iload_n dL_law_644 rfl rfl (V_iconst (v := 1) dL_law_645 (by decide) (V_iadd dL_law_646 ?_))))
  refine V_sld rfl dL_law_647 hN j1 ?_
  refine V_aload_s dL_law_648 rfl (V_iload_n dL_law_649 rfl rfl (V_iconst (v := 2) dL_law_650 (by decide) (V_iadd dL_law_651 ?_)))
  refine V_sld rfl dL_law_652 hN j2 ?_
  refine V_cV2i (M' := M_X11_weak) (d' := 20) dL_law_653 (Or.inl ml_L_84) kb_X11_weak (by first | assumption | exact ⟨by decide, rfl⟩) (by first | decide | omega) (by simp [Value.category]) ⟨Nat.le_of_ble_eq_true rfl, Nat.le_of_ble_eq_true rfl⟩ ?_
  refine Cal.imp (fun v n' I2 J2 R2 h => ?_) (rop_weak (by omega) hDB hMS1)
  obtain ⟨rfl, rfl, rfl, hMS2, hI2, hJ2⟩ := h
  refine ⟨_, rfl, ?_⟩
  refine V_icmp_eq_t (tgt := 891) dL_law_656 (by decide) (rfl) ?_
  exact nxt _ _ _ (inv_next hCS1 hMS2 hI2 hJ2 hKC hDa.up hDb.up hDc.up hkp)
theorem lc_engaged (hN : eN E ≤ 2048) (hk : 4 * k + 4 ≤ eN E) (hV : INV k I J R) (nxt : ∀ I' J' R', INV (k + 1) I' J' R' → V E 2048 (M_L_law nm) Post 891 (LL k) [] NC 200 40000 I' J' R') : V E 2048 (M_L_law nm) Post 661 (LL k) [] NC 200 40000 I J R := by
  obtain ⟨t, len, K, D, D1, D2, kp, tl, hCS, hMS, hKC, hDa, hDb, hDc, hkp⟩ := hV
  have hB := hMS.1
  have hDB := hDa.db (by omega)
  have hD9 : D.1 ≤ 90000 := by have := hDa.1; omega
  have j1 : ix (nI (4 * k) + 1) (4 * k + 1) (eN E) := ⟨nI_1 _, by omega⟩
  have j2 : ix (nI (4 * k) + 2) (4 * k + 2) (eN E) := ⟨nI_add _ 2, by omega⟩
  have j3 : ix (nI (4 * k) + 3) (4 * k + 3) (eN E) := ⟨nI_add _ 3, by omega⟩
  refine V_aload_n dL_law_661 rfl rfl (V_aload_s dL_law_662 rfl (V_iload_n dL_law_663 rfl rfl (V_iconst (v := 1) dL_law_664 (by decide) (V_iadd dL_law_665 ?_))))
  refine V_sld rfl dL_law_666 hN j1 ?_
  refine V_aload_s dL_law_667 rfl (V_iload_n dL_law_668 rfl rfl (V_iconst (v := 2) dL_law_669 (by decide) (V_iadd dL_law_670 ?_)))
  refine V_sld rfl dL_law_671 hN j2 ?_
  refine V_cV2i (M' := M_X10_engaged) (d' := 20) dL_law_672 (Or.inl ml_L_85) kb_X10_engaged (by first | assumption | exact ⟨by decide, rfl⟩) (by first | decide | omega) (by simp [Value.category]) ⟨Nat.le_of_ble_eq_true rfl, Nat.le_of_ble_eq_true rfl⟩ ?_
  refine Cal.imp (fun v n' I1 J1 R1 h => ?_) (op_engaged (by omega) hB hCS)
  obtain ⟨rfl, rfl, hCS1, hI1, hJ1⟩ := h
  obtain ⟨co, dr, cc, a1, a2, -, hRR, -⟩ := id hCS1
  subst hRR
  have hMS1 := hMS.hi hI1
  refine ⟨_, rfl, ?_⟩
  refine V_aload_n dL_law_675 rfl rfl (V_aload_s dL_law_676 rfl (V_iload_n dL_law_677 rfl rfl (V_iconst (v := 1) dL_law_678 (by decide) (V_iadd dL_law_679 ?_))))
  refine V_sld rfl dL_law_680 hN j1 ?_
  refine V_aload_s dL_law_681 rfl (V_iload_n dL_law_682 rfl rfl (V_iconst (v := 2) dL_law_683 (by decide) (V_iadd dL_law_684 ?_)))
  refine V_sld rfl dL_law_685 hN j2 ?_
  refine V_cV2i (M' := M_X11_engaged) (d' := 20) dL_law_686 (Or.inl ml_L_88) kb_X11_engaged (by first | assumption | exact ⟨by decide, rfl⟩) (by first | decide | omega) (by simp [Value.category]) ⟨Nat.le_of_ble_eq_true rfl, Nat.le_of_ble_eq_true rfl⟩ ?_
  refine Cal.imp (fun v n' I2 J2 R2 h => ?_) (rop_engaged (by omega) hDB hMS1)
  obtain ⟨rfl, rfl, rfl, hMS2, hI2, hJ2⟩ := h
  refine ⟨_, rfl, ?_⟩
  refine V_icmp_eq_t (tgt := 891) dL_law_689 (by decide) (rfl) ?_
  exact nxt _ _ _ (inv_next hCS1 hMS2 hI2 hJ2 hKC hDa.up hDb.up hDc.up hkp)
theorem lc_fewest (hN : eN E ≤ 2048) (hk : 4 * k + 4 ≤ eN E) (hV : INV k I J R) (nxt : ∀ I' J' R', INV (k + 1) I' J' R' → V E 2048 (M_L_law nm) Post 891 (LL k) [] NC 200 40000 I' J' R') : V E 2048 (M_L_law nm) Post 694 (LL k) [] NC 200 40000 I J R := by
  obtain ⟨t, len, K, D, D1, D2, kp, tl, hCS, hMS, hKC, hDa, hDb, hDc, hkp⟩ := hV
  have hB := hMS.1
  have hDB := hDa.db (by omega)
  have hD9 : D.1 ≤ 90000 := by have := hDa.1; omega
  have j1 : ix (nI (4 * k) + 1) (4 * k + 1) (eN E) := ⟨nI_1 _, by omega⟩
  have j2 : ix (nI (4 * k) + 2) (4 * k + 2) (eN E) := ⟨nI_add _ 2, by omega⟩
  have j3 : ix (nI (4 * k) + 3) (4 * k + 3) (eN E) := ⟨nI_add _ 3, by omega⟩
  refine V_aload_n dL_law_694 rfl rfl ?_
  refine V_cV0i (M' := M_X10_fewest) (d' := 20) dL_law_695 (Or.inl ml_L_89) kb_X10_fewest (by first | assumption | exact ⟨by decide, rfl⟩) (by first | decide | omega) (by simp [Value.category]) ⟨Nat.le_of_ble_eq_true rfl, Nat.le_of_ble_eq_true rfl⟩ ?_
  refine Cal.imp (fun v n' I1 J1 R1 h => ?_) (op_fewest (by omega) hB hCS)
  obtain ⟨rfl, rfl, hCS1, hI1, hJ1⟩ := h
  obtain ⟨co, dr, cc, a1, a2, -, hRR, -⟩ := id hCS1
  subst hRR
  have hMS1 := hMS.hi hI1
  refine ⟨_, rfl, ?_⟩
  refine V_aload_n dL_law_698 rfl rfl ?_
  refine V_cV0i (M' := M_X11_fewest) (d' := 20) dL_law_699 (Or.inl ml_L_92) kb_X11_fewest (by first | assumption | exact ⟨by decide, rfl⟩) (by first | decide | omega) (by simp [Value.category]) ⟨Nat.le_of_ble_eq_true rfl, Nat.le_of_ble_eq_true rfl⟩ ?_
  refine Cal.imp (fun v n' I2 J2 R2 h => ?_) (rop_fewest (by omega) hDB hMS1)
  obtain ⟨rfl, rfl, rfl, hMS2, hI2, hJ2⟩ := h
  refine ⟨_, rfl, ?_⟩
  refine V_icmp_eq_t (tgt := 891) dL_law_702 (by decide) (rfl) ?_
  exact nxt _ _ _ (inv_next hCS1 hMS2 hI2 hJ2 hKC hDa.up hDb.up hDc.up hkp)
theorem lc_night (hN : eN E ≤ 2048) (hk : 4 * k + 4 ≤ eN E) (hV : INV k I J R) (nxt : ∀ I' J' R', INV (k + 1) I' J' R' → V E 2048 (M_L_law nm) Post 891 (LL k) [] NC 200 40000 I' J' R') : V E 2048 (M_L_law nm) Post 707 (LL k) [] NC 200 40000 I J R := by
  obtain ⟨t, len, K, D, D1, D2, kp, tl, hCS, hMS, hKC, hDa, hDb, hDc, hkp⟩ := hV
  have hB := hMS.1
  have hDB := hDa.db (by omega)
  have hD9 : D.1 ≤ 90000 := by have := hDa.1; omega
  have j1 : ix (nI (4 * k) + 1) (4 * k + 1) (eN E) := ⟨nI_1 _, by omega⟩
  have j2 : ix (nI (4 * k) + 2) (4 * k + 2) (eN E) := ⟨nI_add _ 2, by omega⟩
  have j3 : ix (nI (4 * k) + 3) (4 * k + 3) (eN E) := ⟨nI_add _ 3, by omega⟩
  refine V_aload_n dL_law_707 rfl rfl (V_aload_s dL_law_708 rfl (V_iload_n dL_law_709 rfl rfl (V_iconst (v := 1) dL_law_710 (by decide) (V_iadd dL_law_711 ?_))))
  refine V_sld rfl dL_law_712 hN j1 ?_
  refine V_cV1i (M' := M_X10_night) (d' := 20) dL_law_713 (Or.inl ml_L_93) kb_X10_night (by first | assumption | exact ⟨by decide, rfl⟩) (by first | decide | omega) (by simp [Value.category]) ⟨Nat.le_of_ble_eq_true rfl, Nat.le_of_ble_eq_true rfl⟩ ?_
  refine Cal.imp (fun v n' I1 J1 R1 h => ?_) (op_night (by omega) hB hDB hCS)
  obtain ⟨rfl, rfl, hCS1, hI1, hJ1⟩ := h
  obtain ⟨co, dr, cc, a1, a2, -, hRR, -⟩ := id hCS1
  subst hRR
  have hMS1 := hMS.hi hI1
  refine ⟨_, rfl, ?_⟩
  refine V_aload_n dL_law_716 rfl rfl (V_aload_s dL_law_717 rfl (V_iload_n dL_law_718 rfl rfl (V_iconst (v := 1) dL_law_719 (by decide) (V_iadd dL_law_720 ?_))))
  refine V_sld rfl dL_law_721 hN j1 ?_
  refine V_cV1i (M' := M_X11_night) (d' := 20) dL_law_722 (Or.inl ml_L_96) kb_X11_night (by first | assumption | exact ⟨by decide, rfl⟩) (by first | decide | omega) (by simp [Value.category]) ⟨Nat.le_of_ble_eq_true rfl, Nat.le_of_ble_eq_true rfl⟩ ?_
  refine Cal.imp (fun v n' I2 J2 R2 h => ?_) (rop_night (by omega) hDB hMS1)
  obtain ⟨rfl, rfl, rfl, hMS2, hI2, hJ2⟩ := h
  refine ⟨_, rfl, ?_⟩
  refine V_icmp_eq_t (tgt := 891) dL_law_725 (by decide) (rfl) ?_
  exact nxt _ _ _ (inv_next hCS1 hMS2 hI2 hJ2 hKC (DBk_nt hDa _ _) hDb.up hDc.up hkp)
theorem lc_owed (hN : eN E ≤ 2048) (hk : 4 * k + 4 ≤ eN E) (hV : INV k I J R) (nxt : ∀ I' J' R', INV (k + 1) I' J' R' → V E 2048 (M_L_law nm) Post 891 (LL k) [] NC 200 40000 I' J' R') : V E 2048 (M_L_law nm) Post 730 (LL k) [] NC 200 40000 I J R := by
  obtain ⟨t, len, K, D, D1, D2, kp, tl, hCS, hMS, hKC, hDa, hDb, hDc, hkp⟩ := hV
  have hB := hMS.1
  have hDB := hDa.db (by omega)
  have hD9 : D.1 ≤ 90000 := by have := hDa.1; omega
  have j1 : ix (nI (4 * k) + 1) (4 * k + 1) (eN E) := ⟨nI_1 _, by omega⟩
  have j2 : ix (nI (4 * k) + 2) (4 * k + 2) (eN E) := ⟨nI_add _ 2, by omega⟩
  have j3 : ix (nI (4 * k) + 3) (4 * k + 3) (eN E) := ⟨nI_add _ 3, by omega⟩
  refine V_aload_n dL_law_730 rfl rfl (V_aload_s dL_law_731 rfl (V_iload_n dL_law_732 rfl rfl (V_iconst (v := 1) dL_law_733 (by decide) (V_iadd dL_law_734 ?_))))
  refine V_sld rfl dL_law_735 hN j1 ?_
  refine V_cV1i (M' := M_X10_owed) (d' := 20) dL_law_736 (Or.inl ml_L_97) kb_X10_owed (by first | assumption | exact ⟨by decide, rfl⟩) (by first | decide | omega) (by simp [Value.category]) ⟨Nat.le_of_ble_eq_true rfl, Nat.le_of_ble_eq_true rfl⟩ ?_
  refine Cal.imp (fun v n' I1 J1 R1 h => ?_) (op_owed (by omega) hB hCS)
  obtain ⟨rfl, rfl, hCS1, hI1, hJ1⟩ := h
  obtain ⟨co, dr, cc, a1, a2, -, hRR, -⟩ := id hCS1
  subst hRR
  have hMS1 := hMS.hi hI1
  refine ⟨_, rfl, ?_⟩
  refine V_aload_n dL_law_739 rfl rfl (V_aload_s dL_law_740 rfl (V_iload_n dL_law_741 rfl rfl (V_iconst (v := 1) dL_law_742 (by decide) (V_iadd dL_law_743 ?_))))
  refine V_sld rfl dL_law_744 hN j1 ?_
  refine V_cV1i (M' := M_X11_owed) (d' := 20) dL_law_745 (Or.inl ml_L_100) kb_X11_owed (by first | assumption | exact ⟨by decide, rfl⟩) (by first | decide | omega) (by simp [Value.category]) ⟨Nat.le_of_ble_eq_true rfl, Nat.le_of_ble_eq_true rfl⟩ ?_
  refine Cal.imp (fun v n' I2 J2 R2 h => ?_) (rop_owed (by omega) hMS1)
  obtain ⟨rfl, rfl, rfl, hMS2, hI2, hJ2⟩ := h
  refine ⟨_, rfl, ?_⟩
  refine V_icmp_eq_t (tgt := 891) dL_law_748 (by decide) (rfl) ?_
  exact nxt _ _ _ (inv_next hCS1 hMS2 hI2 hJ2 hKC hDa.up hDb.up hDc.up hkp)
theorem lc_told (hN : eN E ≤ 2048) (hk : 4 * k + 4 ≤ eN E) (hV : INV k I J R) (nxt : ∀ I' J' R', INV (k + 1) I' J' R' → V E 2048 (M_L_law nm) Post 891 (LL k) [] NC 200 40000 I' J' R') : V E 2048 (M_L_law nm) Post 753 (LL k) [] NC 200 40000 I J R := by
  obtain ⟨t, len, K, D, D1, D2, kp, tl, hCS, hMS, hKC, hDa, hDb, hDc, hkp⟩ := hV
  have hB := hMS.1
  have hDB := hDa.db (by omega)
  have hD9 : D.1 ≤ 90000 := by have := hDa.1; omega
  have j1 : ix (nI (4 * k) + 1) (4 * k + 1) (eN E) := ⟨nI_1 _, by omega⟩
  have j2 : ix (nI (4 * k) + 2) (4 * k + 2) (eN E) := ⟨nI_add _ 2, by omega⟩
  have j3 : ix (nI (4 * k) + 3) (4 * k + 3) (eN E) := ⟨nI_add _ 3, by omega⟩
  refine V_aload_n dL_law_753 rfl rfl (V_aload_s dL_law_754 rfl (V_iload_n dL_law_755 rfl rfl (V_iconst (v := 1) dL_law_756 (by decide) (V_iadd dL_law_757 ?_))))
  refine V_sld rfl dL_law_758 hN j1 ?_
  refine V_aload_s dL_law_759 rfl (V_iload_n dL_law_760 rfl rfl (V_iconst (v := 2) dL_law_761 (by decide) (V_iadd dL_law_762 ?_)))
  refine V_sld rfl dL_law_763 hN j2 ?_
  refine V_cV2i (M' := M_X10_told) (d' := 20) dL_law_764 (Or.inl ml_L_101) kb_X10_told (by first | assumption | exact ⟨by decide, rfl⟩) (by first | decide | omega) (by simp [Value.category]) ⟨Nat.le_of_ble_eq_true rfl, Nat.le_of_ble_eq_true rfl⟩ ?_
  refine Cal.imp (fun v n' I1 J1 R1 h => ?_) (op_told (by omega) hB hCS)
  obtain ⟨rfl, rfl, hCS1, hI1, hJ1⟩ := h
  obtain ⟨co, dr, cc, a1, a2, -, hRR, -⟩ := id hCS1
  subst hRR
  have hMS1 := hMS.hi hI1
  refine ⟨_, rfl, ?_⟩
  refine V_aload_n dL_law_767 rfl rfl (V_aload_s dL_law_768 rfl (V_iload_n dL_law_769 rfl rfl (V_iconst (v := 1) dL_law_770 (by decide) (V_iadd dL_law_771 ?_))))
  refine V_sld rfl dL_law_772 hN j1 ?_
  refine V_aload_s dL_law_773 rfl (V_iload_n dL_law_774 rfl rfl (V_iconst (v := 2) dL_law_775 (by decide) (V_iadd dL_law_776 ?_)))
  refine V_sld rfl dL_law_777 hN j2 ?_
  refine V_cV2i (M' := M_X11_told) (d' := 20) dL_law_778 (Or.inl ml_L_104) kb_X11_told (by first | assumption | exact ⟨by decide, rfl⟩) (by first | decide | omega) (by simp [Value.category]) ⟨Nat.le_of_ble_eq_true rfl, Nat.le_of_ble_eq_true rfl⟩ ?_
  refine Cal.imp (fun v n' I2 J2 R2 h => ?_) (rop_told (by omega) hMS1)
  obtain ⟨rfl, rfl, rfl, hMS2, hI2, hJ2⟩ := h
  refine ⟨_, rfl, ?_⟩
  refine V_icmp_eq_t (tgt := 891) dL_law_781 (by decide) (rfl) ?_
  exact nxt _ _ _ (inv_next hCS1 hMS2 hI2 hJ2 hKC hDa.up hDb.up hDc.up hkp)
theorem lc_wrong (hN : eN E ≤ 2048) (hk : 4 * k + 4 ≤ eN E) (hV : INV k I J R) (nxt : ∀ I' J' R', INV (k + 1) I' J' R' → V E 2048 (M_L_law nm) Post 891 (LL k) [] NC 200 40000 I' J' R') : V E 2048 (M_L_law nm) Post 786 (LL k) [] NC 200 40000 I J R := by
  obtain ⟨t, len, K, D, D1, D2, kp, tl, hCS, hMS, hKC, hDa, hDb, hDc, hkp⟩ := hV
  have hB := hMS.1
  have hDB := hDa.db (by omega)
  have hD9 : D.1 ≤ 90000 := by have := hDa.1; omega
  have j1 : ix (nI (4 * k) + 1) (4 * k + 1) (eN E) := ⟨nI_1 _, by omega⟩
  have j2 : ix (nI (4 * k) + 2) (4 * k + 2) (eN E) := ⟨nI_add _ 2, by omega⟩
  have j3 : ix (nI (4 * k) + 3) (4 * k + 3) (eN E) := ⟨nI_add _ 3, by omega⟩
  refine V_aload_n dL_law_786 rfl rfl ?_
  refine V_cV0i (M' := M_X10_wrong) (d' := 20) dL_law_787 (Or.inl ml_L_105) kb_X10_wrong (by first | assumption | exact ⟨by decide, rfl⟩) (by first | decide | omega) (by simp [Value.category]) ⟨Nat.le_of_ble_eq_true rfl, Nat.le_of_ble_eq_true rfl⟩ ?_
  refine Cal.imp (fun v n' I1 J1 R1 h => ?_) (op_wrong hB hCS)
  obtain ⟨rfl, rfl, hCS1, hI1, hJ1⟩ := h
  obtain ⟨co, dr, cc, a1, a2, -, hRR, -⟩ := id hCS1
  subst hRR
  have hMS1 := hMS.hi hI1
  refine ⟨_, rfl, ?_⟩
  refine V_aload_n dL_law_790 rfl rfl ?_
  refine V_cV0i (M' := M_X11_wrong) (d' := 20) dL_law_791 (Or.inl ml_L_108) kb_X11_wrong (by first | assumption | exact ⟨by decide, rfl⟩) (by first | decide | omega) (by simp [Value.category]) ⟨Nat.le_of_ble_eq_true rfl, Nat.le_of_ble_eq_true rfl⟩ ?_
  refine Cal.imp (fun v n' I2 J2 R2 h => ?_) (rop_wrong hMS1)
  obtain ⟨rfl, rfl, rfl, hMS2, hI2, hJ2⟩ := h
  refine ⟨_, rfl, ?_⟩
  refine V_icmp_eq_t (tgt := 891) dL_law_794 (by decide) (rfl) ?_
  exact nxt _ _ _ (inv_next hCS1 hMS2 hI2 hJ2 hKC hDa.up hDb.up hDc.up hkp)
theorem lc_run (hN : eN E ≤ 2048) (hk : 4 * k + 4 ≤ eN E) (hV : INV k I J R) (nxt : ∀ I' J' R', INV (k + 1) I' J' R' → V E 2048 (M_L_law nm) Post 891 (LL k) [] NC 200 40000 I' J' R') : V E 2048 (M_L_law nm) Post 799 (LL k) [] NC 200 40000 I J R := by
  obtain ⟨t, len, K, D, D1, D2, kp, tl, hCS, hMS, hKC, hDa, hDb, hDc, hkp⟩ := hV
  have hB := hMS.1
  have hDB := hDa.db (by omega)
  have hD9 : D.1 ≤ 90000 := by have := hDa.1; omega
  have j1 : ix (nI (4 * k) + 1) (4 * k + 1) (eN E) := ⟨nI_1 _, by omega⟩
  have j2 : ix (nI (4 * k) + 2) (4 * k + 2) (eN E) := ⟨nI_add _ 2, by omega⟩
  have j3 : ix (nI (4 * k) + 3) (4 * k + 3) (eN E) := ⟨nI_add _ 3, by omega⟩
  refine V_aload_n dL_law_799 rfl rfl (V_aload_s dL_law_800 rfl (V_iload_n dL_law_801 rfl rfl (V_iconst (v := 1) dL_law_802 (by decide) (V_iadd dL_law_803 ?_))))
  refine V_sld rfl dL_law_804 hN j1 ?_
  refine V_aload_s dL_law_805 rfl (V_iload_n dL_law_806 rfl rfl (V_iconst (v := 2) dL_law_807 (by decide) (V_iadd dL_law_808 ?_)))
  refine V_sld rfl dL_law_809 hN j2 ?_
  refine V_aload_s dL_law_810 rfl (V_iload_n dL_law_811 rfl rfl (V_iconst (v := 3) dL_law_812 (by decide) (V_iadd dL_law_813 ?_)))
  refine V_sld rfl dL_law_814 hN j3 ?_
  refine V_cV3i (M' := M_X10_run) (d' := 20) dL_law_815 (Or.inl ml_L_109) kb_X10_run (by first | assumption | exact ⟨by decide, rfl⟩) (by first | decide | omega) (by simp [Value.category]) ⟨Nat.le_of_ble_eq_true rfl, Nat.le_of_ble_eq_true rfl⟩ ?_
  refine Cal.imp (fun v n' I1 J1 R1 h => ?_) (op_run (by omega) hB hCS)
  obtain ⟨rfl, rfl, hCS1, hI1, hJ1⟩ := h
  obtain ⟨co, dr, cc, a1, a2, -, hRR, -⟩ := id hCS1
  subst hRR
  have hMS1 := hMS.hi hI1
  refine ⟨_, rfl, ?_⟩
  refine V_aload_n dL_law_818 rfl rfl (V_aload_s dL_law_819 rfl (V_iload_n dL_law_820 rfl rfl (V_iconst (v := 1) dL_law_821 (by decide) (V_iadd dL_law_822 ?_))))
  refine V_sld rfl dL_law_823 hN j1 ?_
  refine V_aload_s dL_law_824 rfl (V_iload_n dL_law_825 rfl rfl (V_iconst (v := 2) dL_law_826 (by decide) (V_iadd dL_law_827 ?_)))
  refine V_sld rfl dL_law_828 hN j2 ?_
  refine V_aload_s dL_law_829 rfl (V_iload_n dL_law_830 rfl rfl (V_iconst (v := 3) dL_law_831 (by decide) (V_iadd dL_law_832 ?_)))
  refine V_sld rfl dL_law_833 hN j3 ?_
  refine V_cV3i (M' := M_X11_run) (d' := 20) dL_law_834 (Or.inl ml_L_112) kb_X11_run (by first | assumption | exact ⟨by decide, rfl⟩) (by first | decide | omega) (by simp [Value.category]) ⟨Nat.le_of_ble_eq_true rfl, Nat.le_of_ble_eq_true rfl⟩ ?_
  refine Cal.imp (fun v n' I2 J2 R2 h => ?_) (rop_run (by omega) hDB hD9 hMS1)
  obtain ⟨rfl, rfl, rfl, hMS2, hI2, hJ2⟩ := h
  refine ⟨_, rfl, ?_⟩
  refine V_icmp_eq_t (tgt := 891) dL_law_837 (by decide) (rfl) ?_
  exact nxt _ _ _ (inv_next hCS1 hMS2 hI2 hJ2 hKC hDa.up hDb.up hDc.up hkp)
theorem lc_keep (hN : eN E ≤ 2048) (hk : 4 * k + 4 ≤ eN E) (hV : INV k I J R) (nxt : ∀ I' J' R', INV (k + 1) I' J' R' → V E 2048 (M_L_law nm) Post 891 (LL k) [] NC 200 40000 I' J' R') : V E 2048 (M_L_law nm) Post 842 (LL k) [] NC 200 40000 I J R := by
  obtain ⟨t, len, K, D, D1, D2, kp, tl, hCS, hMS, hKC, hDa, hDb, hDc, hkp⟩ := hV
  have hB := hMS.1
  have hDB := hDa.db (by omega)
  have hD9 : D.1 ≤ 90000 := by have := hDa.1; omega
  have j1 : ix (nI (4 * k) + 1) (4 * k + 1) (eN E) := ⟨nI_1 _, by omega⟩
  have j2 : ix (nI (4 * k) + 2) (4 * k + 2) (eN E) := ⟨nI_add _ 2, by omega⟩
  have j3 : ix (nI (4 * k) + 3) (4 * k + 3) (eN E) := ⟨nI_add _ 3, by omega⟩
  refine V_aload_n dL_law_842 rfl rfl ?_
  refine V_cV0i (M' := M_X10_keep) (d' := 20) dL_law_843 (Or.inl ml_L_113) kb_X10_keep (by first | assumption | exact ⟨by decide, rfl⟩) (by first | decide | omega) (by simp [Value.category]) ⟨Nat.le_of_ble_eq_true rfl, Nat.le_of_ble_eq_true rfl⟩ ?_
  refine Cal.imp (fun v n' I1 J1 R1 h => ?_) (op_keep (by omega) hkp hCS)
  obtain ⟨rfl, rfl, hCS1, hI1, hJ1⟩ := h
  obtain ⟨co, dr, cc, a1, a2, -, hRR, -⟩ := id hCS1
  subst hRR
  have hMS1 := hMS.hi hI1
  refine ⟨_, rfl, ?_⟩
  refine V_aload_n dL_law_846 rfl rfl ?_
  refine V_cV0i (M' := M_X11_keep) (d' := 20) dL_law_847 (Or.inl ml_L_116) kb_X11_keep (by first | assumption | exact ⟨by decide, rfl⟩) (by first | decide | omega) (by simp [Value.category]) ⟨Nat.le_of_ble_eq_true rfl, Nat.le_of_ble_eq_true rfl⟩ ?_
  refine Cal.imp (fun v n' I2 J2 R2 h => ?_) (rop_keep (by omega) hkp hMS1)
  obtain ⟨rfl, rfl, rfl, hMS2, hI2, hJ2⟩ := h
  refine ⟨_, rfl, ?_⟩
  refine V_icmp_eq_t (tgt := 891) dL_law_850 (by decide) (rfl) ?_
  exact nxt _ _ _ (inv_next hCS1 hMS2 hI2 hJ2 hKC hDa.up (DBk_k1 hDa hDb) (DBk_k2 hDa hDc) (kpN_le hkp))
theorem lc_back (hN : eN E ≤ 2048) (hk : 4 * k + 4 ≤ eN E) (hV : INV k I J R) (nxt : ∀ I' J' R', INV (k + 1) I' J' R' → V E 2048 (M_L_law nm) Post 891 (LL k) [] NC 200 40000 I' J' R') : V E 2048 (M_L_law nm) Post 855 (LL k) [] NC 200 40000 I J R := by
  obtain ⟨t, len, K, D, D1, D2, kp, tl, hCS, hMS, hKC, hDa, hDb, hDc, hkp⟩ := hV
  have hB := hMS.1
  have hDB := hDa.db (by omega)
  have hD9 : D.1 ≤ 90000 := by have := hDa.1; omega
  have j1 : ix (nI (4 * k) + 1) (4 * k + 1) (eN E) := ⟨nI_1 _, by omega⟩
  have j2 : ix (nI (4 * k) + 2) (4 * k + 2) (eN E) := ⟨nI_add _ 2, by omega⟩
  have j3 : ix (nI (4 * k) + 3) (4 * k + 3) (eN E) := ⟨nI_add _ 3, by omega⟩
  refine V_aload_n dL_law_855 rfl rfl ?_
  refine V_cV0i (M' := M_X10_back) (d' := 20) dL_law_856 (Or.inl ml_L_117) kb_X10_back (by first | assumption | exact ⟨by decide, rfl⟩) (by first | decide | omega) (by simp [Value.category]) ⟨Nat.le_of_ble_eq_true rfl, Nat.le_of_ble_eq_true rfl⟩ ?_
  refine Cal.imp (fun v n' I1 J1 R1 h => ?_) (op_back (by omega) hkp hCS)
  obtain ⟨rfl, rfl, hCS1, hI1, hJ1⟩ := h
  obtain ⟨co, dr, cc, a1, a2, -, hRR, -⟩ := id hCS1
  subst hRR
  have hMS1 := hMS.hi hI1
  refine ⟨_, rfl, ?_⟩
  refine V_aload_n dL_law_859 rfl rfl ?_
  refine V_cV0i (M' := M_X11_back) (d' := 20) dL_law_860 (Or.inl ml_L_120) kb_X11_back (by first | assumption | exact ⟨by decide, rfl⟩) (by first | decide | omega) (by simp [Value.category]) ⟨Nat.le_of_ble_eq_true rfl, Nat.le_of_ble_eq_true rfl⟩ ?_
  refine Cal.imp (fun v n' I2 J2 R2 h => ?_) (rop_back (by omega) hkp hMS1)
  obtain ⟨rfl, rfl, rfl, hMS2, hI2, hJ2⟩ := h
  refine ⟨_, rfl, ?_⟩
  refine V_icmp_eq_t (tgt := 891) dL_law_863 (by decide) (rfl) ?_
  exact nxt _ _ _ (inv_next hCS1 hMS2 hI2 hJ2 hKC (DBk_bk hDa hDb hDc) hDb.up hDc.up (by omega))
theorem lc_count (hN : eN E ≤ 2048) (hk : 4 * k + 4 ≤ eN E) (hV : INV k I J R) (nxt : ∀ I' J' R', INV (k + 1) I' J' R' → V E 2048 (M_L_law nm) Post 891 (LL k) [] NC 200 40000 I' J' R') : V E 2048 (M_L_law nm) Post 868 (LL k) [] NC 200 40000 I J R := by
  obtain ⟨t, len, K, D, D1, D2, kp, tl, hCS, hMS, hKC, hDa, hDb, hDc, hkp⟩ := hV
  have hB := hMS.1
  have hDB := hDa.db (by omega)
  have hD9 : D.1 ≤ 90000 := by have := hDa.1; omega
  have j1 : ix (nI (4 * k) + 1) (4 * k + 1) (eN E) := ⟨nI_1 _, by omega⟩
  have j2 : ix (nI (4 * k) + 2) (4 * k + 2) (eN E) := ⟨nI_add _ 2, by omega⟩
  have j3 : ix (nI (4 * k) + 3) (4 * k + 3) (eN E) := ⟨nI_add _ 3, by omega⟩
  refine V_aload_n dL_law_868 rfl rfl (V_aload_s dL_law_869 rfl (V_iload_n dL_law_870 rfl rfl (V_iconst (v := 1) dL_law_871 (by decide) (V_iadd dL_law_872 ?_))))
  refine V_sld rfl dL_law_873 hN j1 ?_
  refine V_cV1i (M' := M_X10_count) (d' := 20) dL_law_874 (Or.inl ml_L_121) kb_X10_count (by first | assumption | exact ⟨by decide, rfl⟩) (by first | decide | omega) (by simp [Value.category]) ⟨Nat.le_of_ble_eq_true rfl, Nat.le_of_ble_eq_true rfl⟩ ?_
  refine Cal.imp (fun v n' I1 J1 R1 h => ?_) (op_count hCS)
  obtain ⟨rfl, rfl, hCS1, hI1, hJ1⟩ := h
  obtain ⟨co, dr, cc, a1, a2, -, hRR, -⟩ := id hCS1
  subst hRR
  have hMS1 := hMS.hi hI1
  refine ⟨_, rfl, ?_⟩
  refine V_aload_n dL_law_877 rfl rfl (V_aload_s dL_law_878 rfl (V_iload_n dL_law_879 rfl rfl (V_iconst (v := 1) dL_law_880 (by decide) (V_iadd dL_law_881 ?_))))
  refine V_sld rfl dL_law_882 hN j1 ?_
  refine V_cV1i (M' := M_X11_count) (d' := 20) dL_law_883 (Or.inl ml_L_124) kb_X11_count (by first | assumption | exact ⟨by decide, rfl⟩) (by first | decide | omega) (by simp [Value.category]) ⟨Nat.le_of_ble_eq_true rfl, Nat.le_of_ble_eq_true rfl⟩ ?_
  refine Cal.imp (fun v n' I2 J2 R2 h => ?_) (rop_count hMS1)
  obtain ⟨rfl, rfl, rfl, hMS2, hI2, hJ2⟩ := h
  refine ⟨_, rfl, ?_⟩
  refine V_icmp_eq_t (tgt := 891) dL_law_886 (by decide) (rfl) ?_
  exact nxt _ _ _ (inv_next hCS1 hMS2 hI2 hJ2 hKC hDa.up hDb.up hDc.up hkp)
theorem nI_self (v : Int32) : nI v.toBitVec.toNat = v := Int32.toBitVec_inj.mp (by show BitVec.ofNat 32 v.toBitVec.toNat = v.toBitVec; exact BitVec.ofNat_toNat 32 v.toBitVec ▸ by simp)
theorem and31 (v : Int32) : ∃ u, u < 32 ∧ v &&& 31 = nI u := ⟨v.toBitVec.toNat % 32, Nat.mod_lt _ (by decide), by
  have h : nI v.toBitVec.toNat &&& 31 = nI (v.toBitVec.toNat % 32) := fa_mask _ 5
  rwa [nI_self] at h⟩

theorem law_loop (hN : eN E ≤ 2048) (fin : ∀ cs sl pc ls n I J R, cs ≤ 600000 → sl ≤ 7302250 → decode cL_law pc = .ok (.ireturn, 1) → V E 2048 (M_L_law nm) Post pc ls [.int 1] n cs sl I J R) : ∀ r k I J R, eN E ≤ 4 * k + 4 * r → 4 * k ≤ eN E → INV k I J R → V E 2048 (M_L_law nm) Post 18 (LL k) [] NC 200 40000 I J R := by
  have e4 : (4 : Int32) = nI 4 := rfl
  have ex : ∀ k I J R, ¬ 4 * k + 4 ≤ eN E → 4 * k ≤ eN E → V E 2048 (M_L_law nm) Post 18 (LL k) [] NC 200 40000 I J R := by
    intro k I J R h hkL
    have hlt : nI (eN E) - 4 < nI (4 * k) := by
      rw [fa_lt, e4, pk_sub_toInt (by omega) (by omega), nI_toInt (by omega)]
      omega
    refine V_iload_n dL_law_18 rfl rfl (V_aload_s dL_law_19 rfl ?_)
    refine V_slen rfl dL_law_20 ?_
    refine V_iconst (v := 4) dL_law_21 (by decide) (V_isub dL_law_22 ?_)
    refine V_icmp_gt_t (tgt := 897) dL_law_23 (by decide) (hlt) ?_
    refine V_iconst (v := 1) dL_law_897 (by decide) ?_
    exact fin _ _ _ _ _ _ _ _ (Nat.le_of_ble_eq_true rfl) (Nat.le_of_ble_eq_true rfl) dL_law_898
  intro r
  induction r with
  | zero =>
    intro k I J R hr hkL hV
    exact ex k I J R (by omega) hkL
  | succ r ih =>
    intro k I J R hr hkL hV
    by_cases h : 4 * k + 4 ≤ eN E
    · have hge : ¬ nI (eN E) - 4 < nI (4 * k) := by
        rw [fa_lt, e4, pk_sub_toInt (by omega) (by omega), nI_toInt (by omega)]
        omega
      have j0 : ix (nI (4 * k)) (4 * k) (eN E) := ⟨rfl, by omega⟩
      refine V_iload_n dL_law_18 rfl rfl (V_aload_s dL_law_19 rfl ?_)
      refine V_slen rfl dL_law_20 ?_
      refine V_iconst (v := 4) dL_law_21 (by decide) (V_isub dL_law_22 ?_)
      refine V_icmp_gt_f (tgt := 897) dL_law_23 (by decide) (hge) ?_
      refine V_aload_s dL_law_26 rfl (V_iload_n dL_law_27 rfl rfl ?_)
      refine V_sld rfl dL_law_28 hN j0 ?_
      refine V_bipush (v := 31) dL_law_29 (by decide) (V_iand dL_law_31 ?_)
      obtain ⟨u, hu, e⟩ := and31 (eX E (4 * k))
      rw [e]
      clear e
      have nxt : ∀ I' J' R', INV (k + 1) I' J' R' → V E 2048 (M_L_law nm) Post 891 (LL k) [] NC 200 40000 I' J' R' := by
        intro I' J' R' hV'
        refine V_iinc_3 (w := 4) dL_law_891 (by decide) (Nat.le_of_ble_eq_true rfl) rfl (V_goto (tgt := 18) dL_law_894 (by decide) ?_)
        rw [e4, nI_add, show 4 * k + 4 = 4 * (k + 1) by omega]
        exact ih (k + 1) I' J' R' (by omega) (by omega) hV'
      rcases (show u = 0 ∨ u = 1 ∨ u = 2 ∨ u = 3 ∨ u = 4 ∨ u = 5 ∨ u = 6 ∨ u = 7 ∨ u = 8 ∨ u = 9 ∨ u = 10 ∨ u = 11 ∨ u = 12 ∨ u = 13 ∨ u = 14 ∨ u = 15 ∨ u = 16 ∨ u = 17 ∨ u = 18 ∨ u = 19 ∨ u = 20 ∨ u = 21 ∨ u = 22 ∨ u = 23 ∨ u = 24 ∨ u = 25 ∨ 26 ≤ u by omega) with rfl | rfl | rfl | rfl | rfl | rfl | rfl | rfl | rfl | rfl | rfl | rfl | rfl | rfl | rfl | rfl | rfl | rfl | rfl | rfl | rfl | rfl | rfl | rfl | rfl | rfl | hu2
      · refine V_tableIn (off := 120) (tgt := 152) dL_law_32 (by decide) (by decide) (by decide) (by decide) ?_
        exact lc_write hN h hV nxt
      · refine V_tableIn (off := 183) (tgt := 215) dL_law_32 (by decide) (by decide) (by decide) (by decide) ?_
        exact lc_wipe hN h hV nxt
      · refine V_tableIn (off := 196) (tgt := 228) dL_law_32 (by decide) (by decide) (by decide) (by decide) ?_
        exact lc_fault hN h hV nxt
      · refine V_tableIn (off := 209) (tgt := 241) dL_law_32 (by decide) (by decide) (by decide) (by decide) ?_
        exact lc_lay hN h hV nxt
      · refine V_tableIn (off := 222) (tgt := 254) dL_law_32 (by decide) (by decide) (by decide) (by decide) ?_
        exact lc_player hN h hV nxt
      · refine V_tableIn (off := 255) (tgt := 287) dL_law_32 (by decide) (by decide) (by decide) (by decide) ?_
        exact lc_part hN h hV nxt
      · refine V_tableIn (off := 288) (tgt := 320) dL_law_32 (by decide) (by decide) (by decide) (by decide) ?_
        exact lc_both hN h hV nxt
      · refine V_tableIn (off := 321) (tgt := 353) dL_law_32 (by decide) (by decide) (by decide) (by decide) ?_
        exact lc_ways hN h hV nxt
      · refine V_tableIn (off := 355) (tgt := 387) dL_law_32 (by decide) (by decide) (by decide) (by decide) ?_
        exact lc_least hN h hV nxt
      · refine V_tableIn (off := 398) (tgt := 430) dL_law_32 (by decide) (by decide) (by decide) (by decide) ?_
        exact lc_cuts hN h hV nxt
      · refine V_tableIn (off := 431) (tgt := 463) dL_law_32 (by decide) (by decide) (by decide) (by decide) ?_
        exact lc_lines hN h hV nxt
      · refine V_tableIn (off := 464) (tgt := 496) dL_law_32 (by decide) (by decide) (by decide) (by decide) ?_
        exact lc_rehearse hN h hV nxt
      · refine V_tableIn (off := 497) (tgt := 529) dL_law_32 (by decide) (by decide) (by decide) (by decide) ?_
        exact lc_rehearsals hN h hV nxt
      · refine V_tableIn (off := 530) (tgt := 562) dL_law_32 (by decide) (by decide) (by decide) (by decide) ?_
        exact lc_rest hN h hV nxt
      · refine V_tableIn (off := 553) (tgt := 585) dL_law_32 (by decide) (by decide) (by decide) (by decide) ?_
        exact lc_cold hN h hV nxt
      · refine V_tableIn (off := 596) (tgt := 628) dL_law_32 (by decide) (by decide) (by decide) (by decide) ?_
        exact lc_weak hN h hV nxt
      · refine V_tableIn (off := 629) (tgt := 661) dL_law_32 (by decide) (by decide) (by decide) (by decide) ?_
        exact lc_engaged hN h hV nxt
      · refine V_tableIn (off := 662) (tgt := 694) dL_law_32 (by decide) (by decide) (by decide) (by decide) ?_
        exact lc_fewest hN h hV nxt
      · refine V_tableIn (off := 675) (tgt := 707) dL_law_32 (by decide) (by decide) (by decide) (by decide) ?_
        exact lc_night hN h hV nxt
      · refine V_tableIn (off := 698) (tgt := 730) dL_law_32 (by decide) (by decide) (by decide) (by decide) ?_
        exact lc_owed hN h hV nxt
      · refine V_tableIn (off := 721) (tgt := 753) dL_law_32 (by decide) (by decide) (by decide) (by decide) ?_
        exact lc_told hN h hV nxt
      · refine V_tableIn (off := 754) (tgt := 786) dL_law_32 (by decide) (by decide) (by decide) (by decide) ?_
        exact lc_wrong hN h hV nxt
      · refine V_tableIn (off := 767) (tgt := 799) dL_law_32 (by decide) (by decide) (by decide) (by decide) ?_
        exact lc_run hN h hV nxt
      · refine V_tableIn (off := 810) (tgt := 842) dL_law_32 (by decide) (by decide) (by decide) (by decide) ?_
        exact lc_keep hN h hV nxt
      · refine V_tableIn (off := 823) (tgt := 855) dL_law_32 (by decide) (by decide) (by decide) (by decide) ?_
        exact lc_back hN h hV nxt
      · refine V_tableIn (off := 836) (tgt := 868) dL_law_32 (by decide) (by decide) (by decide) (by decide) ?_
        exact lc_count hN h hV nxt
      · refine V_tableOut (tgt := 891) dL_law_32 (by rw [nI_toInt (by omega)]; omega) (by decide) ?_
        obtain ⟨t, len, K, D, D1, D2, kp, tl, a1, a2, a3, a4, a5, a6, a7⟩ := hV
        exact nxt I J R ⟨t, len, K, D, D1, D2, kp, tl, a1, a2, a3, a4.up, a5.up, a6.up, a7⟩
    · exact ex k I J R h hkL
theorem law_start (hN : eN E ≤ 2048) (fin : ∀ cs sl pc ls n I J R, cs ≤ 600000 → sl ≤ 7302250 → decode cL_law pc = .ok (.ireturn, 1) → V E 2048 (M_L_law nm) Post pc ls [.int 1] n cs sl I J R) : V E 2048 (M_L_law nm) Post 0 [some (.retAddr 0), none, none, none] [] 0 0 0 (fun _ _ => 0) (fun _ _ => 0) (fun _ _ => none) := by
  refine V_new (ci := 10) (N := 15) dL_law_0 nw_L_7 rfl rfl (Nat.le_of_ble_eq_true rfl) (Nat.le_of_ble_eq_true rfl) (fun _ => rfl) (fun _ => rfl) (fun _ => rfl) ?_
  refine V_dup dL_law_3 rfl ?_
  refine V_cI0 (M' := M_X10_init) (d' := 20) dL_law_4 (Or.inl ml_L_9) kn_X10_init ki_X10_init rfl rfl (by unfold nPar; decide +kernel) (by omega) (by decide) ⟨Nat.le_of_ble_eq_true rfl, Nat.le_of_ble_eq_true rfl⟩ ?_
  refine in_X10 (by omega) (fun I1 hCS hz => ⟨rfl, ?_⟩)
  refine V_astore_1 dL_law_7 (Nat.le_of_ble_eq_true rfl) rfl ?_
  refine V_cong (R' := R1) (fun k hk s _ => (if_pos hk).symm) ?_
  refine V_new (ci := 11) (N := 42) dL_law_8 nw_L_10 rfl rfl (Nat.le_of_ble_eq_true rfl) (Nat.le_of_ble_eq_true rfl) (fun s => hz 70 s (by decide)) (fun _ => rfl) (fun s => if_neg (by decide)) ?_
  refine V_dup dL_law_11 rfl ?_
  refine V_cI0 (M' := M_X11_init) (d' := 20) dL_law_12 (Or.inl ml_L_12) kn_X11_init ki_X11_init rfl rfl (by unfold nPar; decide +kernel) (by omega) (by decide) ⟨Nat.le_of_ble_eq_true rfl, Nat.le_of_ble_eq_true rfl⟩ ?_
  refine in_X11 (by omega) hz (fun I2 hMS h2 => ⟨rfl, ?_⟩)
  refine V_astore_2 dL_law_15 (Nat.le_of_ble_eq_true rfl) rfl (V_iconst (v := 0) dL_law_16 (by decide) (V_istore_3 dL_law_17 (Nat.le_of_ble_eq_true rfl) rfl ?_))
  refine V_widen (cs' := 200) (sl' := 40000) (Nat.le_of_ble_eq_true rfl) (Nat.le_of_ble_eq_true rfl) ?_
  exact law_loop hN fin (eN E) 0 I2 _ _ (by omega) (by omega) ⟨_, 0, KI, D0, D0, D0, 0, fun _ => 0, hCS.lo h2 (fun _ _ _ => rfl), hMS, KC_of KC_K0 (fun p => rfl) rfl, DBk_D0 0, DBk_D0 0, DBk_D0 0, by decide⟩
end
