/-! Company.take: an item is taken in, or not -/
def sg (u : Nat) : Int32 := (nI u).toInt8.toInt32
theorem sg_hi : ∀ u, u < 256 → 128 ≤ u → (sg u).toInt < 0 := by decide +kernel
theorem sg_lo : ∀ u, u < 128 → sg u = nI u := by decide +kernel
theorem sg_toInt_lo {u : Nat} (h : u < 128) : (sg u).toInt = u := by rw [sg_lo u h, nI_toInt (by omega)]
theorem take_none {K : KT} {u : Nat} {nu : Nat → Nat} {n : Nat} (h : u ≠ 97 ∧ u ≠ 112 ∧ u ≠ 99 ∧ u ≠ 111 ∧ u ≠ 107 ∧ u ≠ 120 ∧ u ≠ 109 ∧ u ≠ 116 ∧ u ≠ 102 ∧ u ≠ 119) : takeK K u nu n = none := by
  obtain ⟨h1, h2, h3, h4, h5, h6, h7, h8, h9, h10⟩ := h
  simp [takeK, h1, h2, h3, h4, h5, h6, h7, h8, h9, h10]
theorem take_tab : ∀ v, v < 24 → v ≠ 0 ∧ v ≠ 15 ∧ v ≠ 2 ∧ v ≠ 14 ∧ v ≠ 10 ∧ v ≠ 23 ∧ v ≠ 12 ∧ v ≠ 19 ∧ v ≠ 5 ∧ v ≠ 22 → (#[111, 331, 159, 331, 331, 289, 331, 331, 331, 331, 203, 331, 249, 331, 181, 133, 331, 331, 331, 269, 331, 331, 309, 225] : Array Int)[v]? = some 331 := by decide +kernel
section
variable {E : En} {I : TI} {J : TJ} {co dr : Nat} {cc a1 a2 : Option Nat} {Post : PT} {c : Nat} {K : KT}
theorem sp_take (hc : c = 4 ∨ c = 18) (hB : KB K) (hX : CoX I c K) {u n : Nat} (hu : u < 256) {nu : Nat → Nat} (hn : n ≤ 4) (hnum : ∀ q, q < n → I 3 q = nI (nu q) ∧ nu q ≤ 999) (Kn : takeK K u nu n = none → Post (some (.int 0)) NC I J (RR co dr cc a1 a2)) (Ks : ∀ K', takeK K u nu n = some K' → ∀ I', (∀ q z, (q < c ∨ c + 11 < q) → I' q z = I q z) → CoX I' c K' → Post (some (.int 1)) NC I' J (RR co dr cc a1 a2)) : Cal E 3 M_X3_take [.ref c, .int (sg u), .ref 3, .int (nI n)] NC I J (RR co dr cc a1 a2) Post := by
  obtain ⟨_, _, _, _, _, _, _, _, _, _, _, _, _, _, _, _, _, _, _, _, _, _, _⟩ := f_co (co := co) (dr := dr) (cc := cc) (a1 := a1) (a2 := a2) (hc)
  refine Cal_of kn_X3_take rfl (Nat.le_of_ble_eq_true rfl) ?_
  refine V_aload_n dX3_take_0 rfl rfl (V_iconst (v := 0) dX3_take_1 (by decide) ?_)
  refine V_ial dX3_take_2 (by first | assumption | exact ⟨by decide, rfl⟩) ⟨rfl, by decide⟩ ?_
  refine V_istore_4 dX3_take_3 (by decide) rfl (V_aload_n dX3_take_5 rfl rfl (V_iconst (v := 1) dX3_take_6 (by decide) ?_))
  refine V_ial dX3_take_7 (by first | assumption | exact ⟨by decide, rfl⟩) ⟨rfl, by decide⟩ ?_
  refine V_istore_5 dX3_take_8 (by decide) rfl (V_aload_n dX3_take_10 rfl rfl (V_iconst (v := 2) dX3_take_11 (by decide) ?_))
  refine V_ial dX3_take_12 (by first | assumption | exact ⟨by decide, rfl⟩) ⟨rfl, by decide⟩ ?_
  refine V_istore_6 dX3_take_13 (by decide) rfl (V_aload_n dX3_take_15 rfl rfl (V_iconst (v := 3) dX3_take_16 (by decide) ?_))
  refine V_ial dX3_take_17 (by first | assumption | exact ⟨by decide, rfl⟩) ⟨rfl, by decide⟩ ?_
  refine V_istore_7 dX3_take_18 (by decide) rfl (V_iload_n dX3_take_20 rfl rfl ?_)
  -- stopped at 21: .tableswitch 331 97 120 #[111, 331, 159, 331, 331, 289, 331, 331, 331, 331, 203, 331, 249, 331, 181, 133, 331, 331, 331, 269, 331, 331, 309, 225]
  have en : ∀ k, k < 2 ^ 31 → (nI n = nI k ↔ n = k) := fun k hk => nI_eq (by omega) hk
  by_cases h97 : u = 97
  · subst h97
    have tk : takeK K 97 nu n = if n = 2 ∧ K 0 0 < 10 ∧ nu 0 ≤ 99 ∧ nu 1 ≤ 15 then some (aPl K (nu 0) (nu 1)) else none := by simp [takeK]
    rw [tk] at Kn Ks
    rw [show sg 97 = 97 by decide]
    refine V_tableIn (off := 111) (tgt := 132) dX3_take_21 (by decide) (by decide) (by decide) (by decide) ?_
    by_cases hcn : n = 2
    · subst hcn
      have g0 := hnum 0 (by decide)
      have g1 := hnum 1 (by decide)
      rw [g0.1, g1.1]
      refine V_iload_n dX3_take_132 rfl rfl (V_iconst (v := 2) dX3_take_133 (by decide) ?_)
      refine V_icmp_ne_f (tgt := 152) dX3_take_134 (by decide) (rfl) ?_
      refine V_aload_n dX3_take_137 rfl rfl (V_iload dX3_take_138 rfl (V_iload dX3_take_140 rfl ?_))
      refine V_cV2i (M' := M_X3_addPlayer) (d' := 1) dX3_take_142 (Or.inl ml_X3_83) kb_X3_addPlayer (by first | assumption | exact ⟨by decide, rfl⟩) (by first | decide | omega) (by simp [Value.category]) ⟨by decide, by decide⟩ ?_
      refine sp_addPlayer hc hB hX (by omega) (by omega) (fun hno => ⟨_, rfl, ?_⟩) (fun hyes I' hI hX' => ⟨_, rfl, ?_⟩)
      · refine V_if_eq_t (tgt := 152) dX3_take_145 (by decide) (rfl) ?_
        refine V_iconst (v := 0) dX3_take_152 (by decide) ?_
        refine V_ireturn dX3_take_153 rfl rfl rfl (by decide) (by decide) ?_
        exact Kn (if_neg (fun z => hno (by simpa using z)))
      · refine V_if_eq_f (tgt := 152) dX3_take_145 (by decide) (by decide) ?_
        refine V_iconst (v := 1) dX3_take_148 (by decide) (V_goto (tgt := 153) dX3_take_149 (by decide) ?_)
        refine V_ireturn dX3_take_153 rfl rfl rfl (by decide) (by decide) ?_
        exact Ks _ (if_pos (by simpa using hyes)) I' hI hX'
    · refine V_iload_n dX3_take_132 rfl rfl (V_iconst (v := 2) dX3_take_133 (by decide) ?_)
      refine V_icmp_ne_t (tgt := 152) dX3_take_134 (by decide) (fun z => hcn ((en 2 (by decide)).mp z)) ?_
      refine V_iconst (v := 0) dX3_take_152 (by decide) ?_
      refine V_ireturn dX3_take_153 rfl rfl rfl (by decide) (by decide) ?_
      exact Kn (if_neg (fun z => hcn z.1))
  by_cases h112 : u = 112
  · subst h112
    have tk : takeK K 112 nu n = if n = 4 ∧ K 0 1 < 8 ∧ nu 0 ≤ 99 ∧ nu 1 ≤ 15 ∧ 1 ≤ nu 2 ∧ nu 3 ≤ 1 then some (aPa K (nu 0) (nu 1) (nu 2) (nu 3)) else none := by simp [takeK]
    rw [tk] at Kn Ks
    rw [show sg 112 = 112 by decide]
    refine V_tableIn (off := 133) (tgt := 154) dX3_take_21 (by decide) (by decide) (by decide) (by decide) ?_
    by_cases hcn : n = 4
    · subst hcn
      have g0 := hnum 0 (by decide)
      have g1 := hnum 1 (by decide)
      have g2 := hnum 2 (by decide)
      have g3 := hnum 3 (by decide)
      rw [g0.1, g1.1, g2.1, g3.1]
      refine V_iload_n dX3_take_154 rfl rfl (V_iconst (v := 4) dX3_take_155 (by decide) ?_)
      refine V_icmp_ne_f (tgt := 178) dX3_take_156 (by decide) (rfl) ?_
      refine V_aload_n dX3_take_159 rfl rfl (V_iload dX3_take_160 rfl (V_iload dX3_take_162 rfl (V_iload dX3_take_164 rfl (V_iload dX3_take_166 rfl ?_))))
      refine V_cV4i (M' := M_X3_addPart) (d' := 1) dX3_take_168 (Or.inl ml_X3_87) kb_X3_addPart (by first | assumption | exact ⟨by decide, rfl⟩) (by first | decide | omega) (by simp [Value.category]) ⟨by decide, by decide⟩ ?_
      refine sp_addPart hc hB hX (by omega) (by omega) (by omega) (by omega) (fun hno => ⟨_, rfl, ?_⟩) (fun hyes I' hI hX' => ⟨_, rfl, ?_⟩)
      · refine V_if_eq_t (tgt := 178) dX3_take_171 (by decide) (rfl) ?_
        refine V_iconst (v := 0) dX3_take_178 (by decide) ?_
        refine V_ireturn dX3_take_179 rfl rfl rfl (by decide) (by decide) ?_
        exact Kn (if_neg (fun z => hno (by simpa using z)))
      · refine V_if_eq_f (tgt := 178) dX3_take_171 (by decide) (by decide) ?_
        refine V_iconst (v := 1) dX3_take_174 (by decide) (V_goto (tgt := 179) dX3_take_175 (by decide) ?_)
        refine V_ireturn dX3_take_179 rfl rfl rfl (by decide) (by decide) ?_
        exact Ks _ (if_pos (by simpa using hyes)) I' hI hX'
    · refine V_iload_n dX3_take_154 rfl rfl (V_iconst (v := 4) dX3_take_155 (by decide) ?_)
      refine V_icmp_ne_t (tgt := 178) dX3_take_156 (by decide) (fun z => hcn ((en 4 (by decide)).mp z)) ?_
      refine V_iconst (v := 0) dX3_take_178 (by decide) ?_
      refine V_ireturn dX3_take_179 rfl rfl rfl (by decide) (by decide) ?_
      exact Kn (if_neg (fun z => hcn z.1))
  by_cases h99 : u = 99
  · subst h99
    have tk : takeK K 99 nu n = if n = 2 ∧ K 0 2 < 10 ∧ 1 ≤ nu 0 ∧ nu 0 < 2 ^ K 0 1 ∧ 1 ≤ nu 1 ∧ nu 1 ≤ 99 then some (aSc K (nu 0) (nu 1)) else none := by simp [takeK]
    rw [tk] at Kn Ks
    rw [show sg 99 = 99 by decide]
    refine V_tableIn (off := 159) (tgt := 180) dX3_take_21 (by decide) (by decide) (by decide) (by decide) ?_
    by_cases hcn : n = 2
    · subst hcn
      have g0 := hnum 0 (by decide)
      have g1 := hnum 1 (by decide)
      rw [g0.1, g1.1]
      refine V_iload_n dX3_take_180 rfl rfl (V_iconst (v := 2) dX3_take_181 (by decide) ?_)
      refine V_icmp_ne_f (tgt := 200) dX3_take_182 (by decide) (rfl) ?_
      refine V_aload_n dX3_take_185 rfl rfl (V_iload dX3_take_186 rfl (V_iload dX3_take_188 rfl ?_))
      refine V_cV2i (M' := M_X3_tellScene) (d' := 2) dX3_take_190 (Or.inl ml_X3_91) kb_X3_tellScene (by first | assumption | exact ⟨by decide, rfl⟩) (by first | decide | omega) (by simp [Value.category]) ⟨by decide, by decide⟩ ?_
      refine sp_tellScene hc hB hX (by omega) (by omega) (fun hno => ⟨_, rfl, ?_⟩) (fun hyes I' hI hX' => ⟨_, rfl, ?_⟩)
      · refine V_if_eq_t (tgt := 200) dX3_take_193 (by decide) (rfl) ?_
        refine V_iconst (v := 0) dX3_take_200 (by decide) ?_
        refine V_ireturn dX3_take_201 rfl rfl rfl (by decide) (by decide) ?_
        exact Kn (if_neg (fun z => hno (by simpa using z)))
      · refine V_if_eq_f (tgt := 200) dX3_take_193 (by decide) (by decide) ?_
        refine V_iconst (v := 1) dX3_take_196 (by decide) (V_goto (tgt := 201) dX3_take_197 (by decide) ?_)
        refine V_ireturn dX3_take_201 rfl rfl rfl (by decide) (by decide) ?_
        exact Ks _ (if_pos (by simpa using hyes)) I' hI hX'
    · refine V_iload_n dX3_take_180 rfl rfl (V_iconst (v := 2) dX3_take_181 (by decide) ?_)
      refine V_icmp_ne_t (tgt := 200) dX3_take_182 (by decide) (fun z => hcn ((en 2 (by decide)).mp z)) ?_
      refine V_iconst (v := 0) dX3_take_200 (by decide) ?_
      refine V_ireturn dX3_take_201 rfl rfl rfl (by decide) (by decide) ?_
      exact Kn (if_neg (fun z => hcn z.1))
  by_cases h111 : u = 111
  · subst h111
    have tk : takeK K 111 nu n = if n = 2 ∧ nu 0 < K 0 0 ∧ nu 1 < K 0 1 then some (aOw K (nu 0) (nu 1)) else none := by simp [takeK]
    rw [tk] at Kn Ks
    rw [show sg 111 = 111 by decide]
    refine V_tableIn (off := 181) (tgt := 202) dX3_take_21 (by decide) (by decide) (by decide) (by decide) ?_
    by_cases hcn : n = 2
    · subst hcn
      have g0 := hnum 0 (by decide)
      have g1 := hnum 1 (by decide)
      rw [g0.1, g1.1]
      refine V_iload_n dX3_take_202 rfl rfl (V_iconst (v := 2) dX3_take_203 (by decide) ?_)
      refine V_icmp_ne_f (tgt := 222) dX3_take_204 (by decide) (rfl) ?_
      refine V_aload_n dX3_take_207 rfl rfl (V_iload dX3_take_208 rfl (V_iload dX3_take_210 rfl ?_))
      refine V_cV2i (M' := M_X3_giveOwn) (d' := 2) dX3_take_212 (Or.inl ml_X3_94) kb_X3_giveOwn (by first | assumption | exact ⟨by decide, rfl⟩) (by first | decide | omega) (by simp [Value.category]) ⟨by decide, by decide⟩ ?_
      refine sp_giveOwn hc hB hX (by omega) (by omega) (fun hno => ⟨_, rfl, ?_⟩) (fun hyes I' hI hX' => ⟨_, rfl, ?_⟩)
      · refine V_if_eq_t (tgt := 222) dX3_take_215 (by decide) (rfl) ?_
        refine V_iconst (v := 0) dX3_take_222 (by decide) ?_
        refine V_ireturn dX3_take_223 rfl rfl rfl (by decide) (by decide) ?_
        exact Kn (if_neg (fun z => hno (by simpa using z)))
      · refine V_if_eq_f (tgt := 222) dX3_take_215 (by decide) (by decide) ?_
        refine V_iconst (v := 1) dX3_take_218 (by decide) (V_goto (tgt := 223) dX3_take_219 (by decide) ?_)
        refine V_ireturn dX3_take_223 rfl rfl rfl (by decide) (by decide) ?_
        exact Ks _ (if_pos (by simpa using hyes)) I' hI hX'
    · refine V_iload_n dX3_take_202 rfl rfl (V_iconst (v := 2) dX3_take_203 (by decide) ?_)
      refine V_icmp_ne_t (tgt := 222) dX3_take_204 (by decide) (fun z => hcn ((en 2 (by decide)).mp z)) ?_
      refine V_iconst (v := 0) dX3_take_222 (by decide) ?_
      refine V_ireturn dX3_take_223 rfl rfl rfl (by decide) (by decide) ?_
      exact Kn (if_neg (fun z => hcn z.1))
  by_cases h107 : u = 107
  · subst h107
    have tk : takeK K 107 nu n = if n = 2 ∧ K 0 3 < 24 ∧ nu 0 < K 0 0 ∧ nu 1 < K 0 1 then some (aKn K (nu 0) (nu 1)) else none := by simp [takeK]
    rw [tk] at Kn Ks
    rw [show sg 107 = 107 by decide]
    refine V_tableIn (off := 203) (tgt := 224) dX3_take_21 (by decide) (by decide) (by decide) (by decide) ?_
    by_cases hcn : n = 2
    · subst hcn
      have g0 := hnum 0 (by decide)
      have g1 := hnum 1 (by decide)
      rw [g0.1, g1.1]
      refine V_iload_n dX3_take_224 rfl rfl (V_iconst (v := 2) dX3_take_225 (by decide) ?_)
      refine V_icmp_ne_f (tgt := 244) dX3_take_226 (by decide) (rfl) ?_
      refine V_aload_n dX3_take_229 rfl rfl (V_iload dX3_take_230 rfl (V_iload dX3_take_232 rfl ?_))
      refine V_cV2i (M' := M_X3_addCover) (d' := 2) dX3_take_234 (Or.inl ml_X3_97) kb_X3_addCover (by first | assumption | exact ⟨by decide, rfl⟩) (by first | decide | omega) (by simp [Value.category]) ⟨by decide, by decide⟩ ?_
      refine sp_addCover hc hB hX (by omega) (by omega) (fun hno => ⟨_, rfl, ?_⟩) (fun hyes I' hI hX' => ⟨_, rfl, ?_⟩)
      · refine V_if_eq_t (tgt := 244) dX3_take_237 (by decide) (rfl) ?_
        refine V_iconst (v := 0) dX3_take_244 (by decide) ?_
        refine V_ireturn dX3_take_245 rfl rfl rfl (by decide) (by decide) ?_
        exact Kn (if_neg (fun z => hno (by simpa using z)))
      · refine V_if_eq_f (tgt := 244) dX3_take_237 (by decide) (by decide) ?_
        refine V_iconst (v := 1) dX3_take_240 (by decide) (V_goto (tgt := 245) dX3_take_241 (by decide) ?_)
        refine V_ireturn dX3_take_245 rfl rfl rfl (by decide) (by decide) ?_
        exact Ks _ (if_pos (by simpa using hyes)) I' hI hX'
    · refine V_iload_n dX3_take_224 rfl rfl (V_iconst (v := 2) dX3_take_225 (by decide) ?_)
      refine V_icmp_ne_t (tgt := 244) dX3_take_226 (by decide) (fun z => hcn ((en 2 (by decide)).mp z)) ?_
      refine V_iconst (v := 0) dX3_take_244 (by decide) ?_
      refine V_ireturn dX3_take_245 rfl rfl rfl (by decide) (by decide) ?_
      exact Kn (if_neg (fun z => hcn z.1))
  by_cases h120 : u = 120
  · subst h120
    have tk : takeK K 120 nu n = if n = 3 ∧ nu 0 < K 0 0 ∧ nu 1 < K 0 0 ∧ nu 0 ≠ nu 1 ∧ nu 2 ≤ 100 then some (aCo K (nu 0) (nu 1) (nu 2)) else none := by simp [takeK]
    rw [tk] at Kn Ks
    rw [show sg 120 = 120 by decide]
    refine V_tableIn (off := 225) (tgt := 246) dX3_take_21 (by decide) (by decide) (by decide) (by decide) ?_
    by_cases hcn : n = 3
    · subst hcn
      have g0 := hnum 0 (by decide)
      have g1 := hnum 1 (by decide)
      have g2 := hnum 2 (by decide)
      rw [g0.1, g1.1, g2.1]
      refine V_iload_n dX3_take_246 rfl rfl (V_iconst (v := 3) dX3_take_247 (by decide) ?_)
      refine V_icmp_ne_f (tgt := 268) dX3_take_248 (by decide) (rfl) ?_
      refine V_aload_n dX3_take_251 rfl rfl (V_iload dX3_take_252 rfl (V_iload dX3_take_254 rfl (V_iload dX3_take_256 rfl ?_)))
      refine V_cV3i (M' := M_X3_setContagion) (d' := 2) dX3_take_258 (Or.inl ml_X3_100) kb_X3_setContagion (by first | assumption | exact ⟨by decide, rfl⟩) (by first | decide | omega) (by simp [Value.category]) ⟨by decide, by decide⟩ ?_
      refine sp_setContagion hc hB hX (by omega) (by omega) (by omega) (fun hno => ⟨_, rfl, ?_⟩) (fun hyes I' hI hX' => ⟨_, rfl, ?_⟩)
      · refine V_if_eq_t (tgt := 268) dX3_take_261 (by decide) (rfl) ?_
        refine V_iconst (v := 0) dX3_take_268 (by decide) ?_
        refine V_ireturn dX3_take_269 rfl rfl rfl (by decide) (by decide) ?_
        exact Kn (if_neg (fun z => hno (by simpa using z)))
      · refine V_if_eq_f (tgt := 268) dX3_take_261 (by decide) (by decide) ?_
        refine V_iconst (v := 1) dX3_take_264 (by decide) (V_goto (tgt := 269) dX3_take_265 (by decide) ?_)
        refine V_ireturn dX3_take_269 rfl rfl rfl (by decide) (by decide) ?_
        exact Ks _ (if_pos (by simpa using hyes)) I' hI hX'
    · refine V_iload_n dX3_take_246 rfl rfl (V_iconst (v := 3) dX3_take_247 (by decide) ?_)
      refine V_icmp_ne_t (tgt := 268) dX3_take_248 (by decide) (fun z => hcn ((en 3 (by decide)).mp z)) ?_
      refine V_iconst (v := 0) dX3_take_268 (by decide) ?_
      refine V_ireturn dX3_take_269 rfl rfl rfl (by decide) (by decide) ?_
      exact Kn (if_neg (fun z => hcn z.1))
  by_cases h109 : u = 109
  · subst h109
    have tk : takeK K 109 nu n = if n = 1 ∧ nu 0 ≤ 99 then some (up2 K 0 4 (nu 0)) else none := by simp [takeK]
    rw [tk] at Kn Ks
    rw [show sg 109 = 109 by decide]
    refine V_tableIn (off := 249) (tgt := 270) dX3_take_21 (by decide) (by decide) (by decide) (by decide) ?_
    by_cases hcn : n = 1
    · subst hcn
      have g0 := hnum 0 (by decide)
      rw [g0.1]
      refine V_iload_n dX3_take_270 rfl rfl (V_iconst (v := 1) dX3_take_271 (by decide) ?_)
      refine V_icmp_ne_f (tgt := 288) dX3_take_272 (by decide) (rfl) ?_
      refine V_aload_n dX3_take_275 rfl rfl (V_iload dX3_take_276 rfl ?_)
      refine V_cV1i (M' := M_X3_setChange) (d' := 1) dX3_take_278 (Or.inl ml_X3_104) kb_X3_setChange (by first | assumption | exact ⟨by decide, rfl⟩) (by first | decide | omega) (by simp [Value.category]) ⟨by decide, by decide⟩ ?_
      refine sp_setChange hc hX (by omega) (fun hno => ⟨_, rfl, ?_⟩) (fun hyes I' hI hX' => ⟨_, rfl, ?_⟩)
      · refine V_if_eq_t (tgt := 288) dX3_take_281 (by decide) (rfl) ?_
        refine V_iconst (v := 0) dX3_take_288 (by decide) ?_
        refine V_ireturn dX3_take_289 rfl rfl rfl (by decide) (by decide) ?_
        exact Kn (if_neg (fun z => hno (by simpa using z)))
      · refine V_if_eq_f (tgt := 288) dX3_take_281 (by decide) (by decide) ?_
        refine V_iconst (v := 1) dX3_take_284 (by decide) (V_goto (tgt := 289) dX3_take_285 (by decide) ?_)
        refine V_ireturn dX3_take_289 rfl rfl rfl (by decide) (by decide) ?_
        exact Ks _ (if_pos (by simpa using hyes)) I' hI hX'
    · refine V_iload_n dX3_take_270 rfl rfl (V_iconst (v := 1) dX3_take_271 (by decide) ?_)
      refine V_icmp_ne_t (tgt := 288) dX3_take_272 (by decide) (fun z => hcn ((en 1 (by decide)).mp z)) ?_
      refine V_iconst (v := 0) dX3_take_288 (by decide) ?_
      refine V_ireturn dX3_take_289 rfl rfl rfl (by decide) (by decide) ?_
      exact Kn (if_neg (fun z => hcn z.1))
  by_cases h116 : u = 116
  · subst h116
    have tk : takeK K 116 nu n = if n = 1 ∧ nu 0 ≤ 9 then some (up2 K 0 5 (nu 0)) else none := by simp [takeK]
    rw [tk] at Kn Ks
    rw [show sg 116 = 116 by decide]
    refine V_tableIn (off := 269) (tgt := 290) dX3_take_21 (by decide) (by decide) (by decide) (by decide) ?_
    by_cases hcn : n = 1
    · subst hcn
      have g0 := hnum 0 (by decide)
      rw [g0.1]
      refine V_iload_n dX3_take_290 rfl rfl (V_iconst (v := 1) dX3_take_291 (by decide) ?_)
      refine V_icmp_ne_f (tgt := 308) dX3_take_292 (by decide) (rfl) ?_
      refine V_aload_n dX3_take_295 rfl rfl (V_iload dX3_take_296 rfl ?_)
      refine V_cV1i (M' := M_X3_setTailor) (d' := 1) dX3_take_298 (Or.inl ml_X3_108) kb_X3_setTailor (by first | assumption | exact ⟨by decide, rfl⟩) (by first | decide | omega) (by simp [Value.category]) ⟨by decide, by decide⟩ ?_
      refine sp_setTailor hc hX (by omega) (fun hno => ⟨_, rfl, ?_⟩) (fun hyes I' hI hX' => ⟨_, rfl, ?_⟩)
      · refine V_if_eq_t (tgt := 308) dX3_take_301 (by decide) (rfl) ?_
        refine V_iconst (v := 0) dX3_take_308 (by decide) ?_
        refine V_ireturn dX3_take_309 rfl rfl rfl (by decide) (by decide) ?_
        exact Kn (if_neg (fun z => hno (by simpa using z)))
      · refine V_if_eq_f (tgt := 308) dX3_take_301 (by decide) (by decide) ?_
        refine V_iconst (v := 1) dX3_take_304 (by decide) (V_goto (tgt := 309) dX3_take_305 (by decide) ?_)
        refine V_ireturn dX3_take_309 rfl rfl rfl (by decide) (by decide) ?_
        exact Ks _ (if_pos (by simpa using hyes)) I' hI hX'
    · refine V_iload_n dX3_take_290 rfl rfl (V_iconst (v := 1) dX3_take_291 (by decide) ?_)
      refine V_icmp_ne_t (tgt := 308) dX3_take_292 (by decide) (fun z => hcn ((en 1 (by decide)).mp z)) ?_
      refine V_iconst (v := 0) dX3_take_308 (by decide) ?_
      refine V_ireturn dX3_take_309 rfl rfl rfl (by decide) (by decide) ?_
      exact Kn (if_neg (fun z => hcn z.1))
  by_cases h102 : u = 102
  · subst h102
    have tk : takeK K 102 nu n = if n = 1 ∧ nu 0 ≤ 99 then some (up2 K 0 6 (nu 0)) else none := by simp [takeK]
    rw [tk] at Kn Ks
    rw [show sg 102 = 102 by decide]
    refine V_tableIn (off := 289) (tgt := 310) dX3_take_21 (by decide) (by decide) (by decide) (by decide) ?_
    by_cases hcn : n = 1
    · subst hcn
      have g0 := hnum 0 (by decide)
      rw [g0.1]
      refine V_iload_n dX3_take_310 rfl rfl (V_iconst (v := 1) dX3_take_311 (by decide) ?_)
      refine V_icmp_ne_f (tgt := 328) dX3_take_312 (by decide) (rfl) ?_
      refine V_aload_n dX3_take_315 rfl rfl (V_iload dX3_take_316 rfl ?_)
      refine V_cV1i (M' := M_X3_setForgetting) (d' := 1) dX3_take_318 (Or.inl ml_X3_111) kb_X3_setForgetting (by first | assumption | exact ⟨by decide, rfl⟩) (by first | decide | omega) (by simp [Value.category]) ⟨by decide, by decide⟩ ?_
      refine sp_setForgetting hc hX (by omega) (fun hno => ⟨_, rfl, ?_⟩) (fun hyes I' hI hX' => ⟨_, rfl, ?_⟩)
      · refine V_if_eq_t (tgt := 328) dX3_take_321 (by decide) (rfl) ?_
        refine V_iconst (v := 0) dX3_take_328 (by decide) ?_
        refine V_ireturn dX3_take_329 rfl rfl rfl (by decide) (by decide) ?_
        exact Kn (if_neg (fun z => hno (by simpa using z)))
      · refine V_if_eq_f (tgt := 328) dX3_take_321 (by decide) (by decide) ?_
        refine V_iconst (v := 1) dX3_take_324 (by decide) (V_goto (tgt := 329) dX3_take_325 (by decide) ?_)
        refine V_ireturn dX3_take_329 rfl rfl rfl (by decide) (by decide) ?_
        exact Ks _ (if_pos (by simpa using hyes)) I' hI hX'
    · refine V_iload_n dX3_take_310 rfl rfl (V_iconst (v := 1) dX3_take_311 (by decide) ?_)
      refine V_icmp_ne_t (tgt := 328) dX3_take_312 (by decide) (fun z => hcn ((en 1 (by decide)).mp z)) ?_
      refine V_iconst (v := 0) dX3_take_328 (by decide) ?_
      refine V_ireturn dX3_take_329 rfl rfl rfl (by decide) (by decide) ?_
      exact Kn (if_neg (fun z => hcn z.1))
  by_cases h119 : u = 119
  · subst h119
    have tk : takeK K 119 nu n = if n = 2 ∧ nu 1 ≤ 99 then some (aPy K (nu 0) (nu 1)) else none := by simp [takeK]
    rw [tk] at Kn Ks
    rw [show sg 119 = 119 by decide]
    refine V_tableIn (off := 309) (tgt := 330) dX3_take_21 (by decide) (by decide) (by decide) (by decide) ?_
    by_cases hcn : n = 2
    · subst hcn
      have g0 := hnum 0 (by decide)
      have g1 := hnum 1 (by decide)
      rw [g0.1, g1.1]
      refine V_iload_n dX3_take_330 rfl rfl (V_iconst (v := 2) dX3_take_331 (by decide) ?_)
      refine V_icmp_ne_f (tgt := 350) dX3_take_332 (by decide) (rfl) ?_
      refine V_aload_n dX3_take_335 rfl rfl (V_iload dX3_take_336 rfl (V_iload dX3_take_338 rfl ?_))
      refine V_cV2i (M' := M_X3_setPay) (d' := 1) dX3_take_340 (Or.inl ml_X3_114) kb_X3_setPay (by first | assumption | exact ⟨by decide, rfl⟩) (by first | decide | omega) (by simp [Value.category]) ⟨by decide, by decide⟩ ?_
      refine sp_setPay hc hX (by omega) (by omega) (fun hno => ⟨_, rfl, ?_⟩) (fun hyes I' hI hX' => ⟨_, rfl, ?_⟩)
      · refine V_if_eq_t (tgt := 350) dX3_take_343 (by decide) (rfl) ?_
        refine V_iconst (v := 0) dX3_take_350 (by decide) ?_
        refine V_ireturn dX3_take_351 rfl rfl rfl (by decide) (by decide) ?_
        exact Kn (if_neg (fun z => hno (by simpa using z)))
      · refine V_if_eq_f (tgt := 350) dX3_take_343 (by decide) (by decide) ?_
        refine V_iconst (v := 1) dX3_take_346 (by decide) (V_goto (tgt := 351) dX3_take_347 (by decide) ?_)
        refine V_ireturn dX3_take_351 rfl rfl rfl (by decide) (by decide) ?_
        exact Ks _ (if_pos (by simpa using hyes)) I' hI hX'
    · refine V_iload_n dX3_take_330 rfl rfl (V_iconst (v := 2) dX3_take_331 (by decide) ?_)
      refine V_icmp_ne_t (tgt := 350) dX3_take_332 (by decide) (fun z => hcn ((en 2 (by decide)).mp z)) ?_
      refine V_iconst (v := 0) dX3_take_350 (by decide) ?_
      refine V_ireturn dX3_take_351 rfl rfl rfl (by decide) (by decide) ?_
      exact Kn (if_neg (fun z => hcn z.1))
  have hnone : takeK K u nu n = none := take_none ⟨h97, h112, h99, h111, h107, h120, h109, h116, h102, h119⟩
  have fin : V E 3 M_X3_take Post 352 [some (.ref c), some (.int (sg u)), some (.ref 3), some (.int (nI n)), some (.int (I 3 0)), some (.int (I 3 1)), some (.int (I 3 2)), some (.int (I 3 3))] [] NC 0 0 I J (RR co dr cc a1 a2) := by
    refine V_iconst (v := 0) dX3_take_352 (by decide) ?_
    refine V_ireturn dX3_take_353 rfl rfl rfl (by decide) (by decide) ?_
    exact Kn hnone
  by_cases hlo : u < 128
  · have hi := sg_toInt_lo hlo
    by_cases hr : 97 ≤ u ∧ u ≤ 120
    · refine V_tableIn (off := 331) (tgt := 352) dX3_take_21 (by rw [hi]; omega) (by rw [hi]; omega) ?_ (by decide) fin
      rw [hi, show ((u : Int) - 97).toNat = u - 97 by omega]
      exact take_tab (u - 97) (by omega) (by omega)
    · exact V_tableOut (tgt := 352) dX3_take_21 (by rw [hi]; omega) (by decide) fin
  · have := sg_hi u hu (by omega)
    exact V_tableOut (tgt := 352) dX3_take_21 (by omega) (by decide) fin
end
