/-! The reference reads the whole text, and lays a company -/
def cnt (u : Nat) : Nat := if u = 97 then 2 else if u = 112 then 4 else if u = 99 then 2 else if u = 111 then 2 else if u = 107 then 2 else if u = 120 then 3 else if u = 109 then 1 else if u = 116 then 1 else if u = 102 then 1 else if u = 119 then 2 else 0
def itn (u : Nat) : Prop := u ≠ 97 ∧ u ≠ 112 ∧ u ≠ 99 ∧ u ≠ 111 ∧ u ≠ 107 ∧ u ≠ 120 ∧ u ≠ 109 ∧ u ≠ 116 ∧ u ≠ 102 ∧ u ≠ 119
theorem takeK_cnt {K : KT} {u n : Nat} {nu : Nat → Nat} (h : n ≠ cnt u ∨ itn u) : takeK K u nu n = none := by
  rcases h with h | h
  · unfold cnt at h
    unfold takeK
    repeat' split
    all_goals first | rfl | (simp_all; done) | skip
    all_goals omega
  · exact take_none h
theorem cnt_0 {u : Nat} (h : itn u) : cnt u = 0 := by
  obtain ⟨h1, h2, h3, h4, h5, h6, h7, h8, h9, h10⟩ := h
  simp [cnt, h1, h2, h3, h4, h5, h6, h7, h8, h9, h10]
theorem cnt_le (u : Nat) : cnt u ≤ 4 := by
  unfold cnt
  repeat' split
  all_goals omega
theorem item_eq (t : Nat → Nat) (len : Nat) (K : KT) (k : Nat) : rif t len (cnt (t k)) (t k) K (k + 1) = match eoi t len 4 (k + 1) with | none => none | some q => (takeK K (t k) (fun j => q.2.getD j 0) q.2.length).map (fun K' => (q.1, K')) := by
  by_cases hit : itn (t k)
  · rw [cnt_0 hit]
    unfold rif
    have e1 : fgs t len 0 (k + 1) = some (k + 1, []) := rfl
    rw [e1]
    show Option.map _ (takeK K (t k) _ 0) = _
    rw [takeK_cnt (Or.inr hit)]
    cases eoi t len 4 (k + 1) with
    | none => rfl
    | some q =>
      show none = Option.map _ (takeK K (t k) _ q.2.length)
      rw [takeK_cnt (Or.inr hit)]; rfl
  · have hc : cnt (t k) ≠ 0 := by
      intro z
      apply hit
      unfold cnt at z
      unfold itn
      repeat' split at z
      all_goals omega
    obtain ⟨m, hm⟩ : ∃ m, cnt (t k) = m + 1 := ⟨cnt (t k) - 1, by omega⟩
    have h4 := cnt_le (t k)
    rw [hm]
    unfold rif
    rw [eoi_fgs t len m 4 (k + 1) (by omega)]
    cases eoi t len 4 (k + 1) with
    | none => rfl
    | some q =>
      show Option.bind (if q.2.length = m + 1 then some q else none) _ = Option.map _ (takeK K (t k) _ q.2.length)
      by_cases hl : q.2.length = m + 1
      · rw [if_pos hl, hl]; rfl
      · rw [if_neg hl, takeK_cnt (Or.inl (by omega))]; rfl
theorem item_tab : ∀ v, v < 24 → v ≠ 0 ∧ v ≠ 15 ∧ v ≠ 2 ∧ v ≠ 14 ∧ v ≠ 10 ∧ v ≠ 23 ∧ v ≠ 12 ∧ v ≠ 19 ∧ v ≠ 5 ∧ v ≠ 22 → (#[112, 293, 122, 293, 293, 236, 293, 293, 293, 293, 158, 293, 220, 293, 127, 117, 293, 293, 293, 228, 293, 293, 244, 215] : Array Int)[v]? = some 293 := by decide +kernel
theorem Fr1.M1p {I I' : TI} {k : Nat} (h : ∀ x y, (x ≠ 70 ∨ y ≠ 23) → I' x y = I x y) : Fr1 I I' := fun x y _ b _ => h x y b
section
variable {E : En} {I : TI} {J : TJ} {co dr : Nat} {cc a1 a2 : Option Nat} {Post : PT} {K : KT} {t : Nat → Nat} {len : Nat} {d k : Nat}
theorem IT.fr {m u : Nat} {I0 : TI} {R : TR} (h : IT t len m u K k Post I0 J R) (hf : Fr1 I0 I) : IT t len m u K k Post I J R := ⟨fun a I' g => h.1 a I' (hf.trans g), fun p K' a I' g x y => h.2 p K' a I' (hf.trans g) x y⟩
theorem mr_item (hT : MTX I t len) (hB : KB K) (hX : M1 I K) (hk : I 70 23 = nI k) (hk2 : k < len) (Kk : IT t len (cnt (t k)) (t k) K (k + 1) Post I J (RR co dr cc a1 a2)) : Cal E 4 M_X11_item [.ref 70] NC I J (RR co dr cc a1 a2) Post := by
  have hl := hT.1
  have hP := hB.1.1
  have hQ := hB.1.2.1
  obtain ⟨hu1, hu2⟩ := hT.2.2 k hk2
  refine Cal_of kn_X11_item rfl (Nat.le_of_ble_eq_true rfl) ?_
  refine V_aload_n dX11_item_0 rfl rfl (V_aload_n dX11_item_1 rfl rfl ?_)
  refine V_getI dX11_item_2 fl_X11_134 (by first | assumption | exact ⟨by decide, rfl⟩) ?_
  refine V_cV1i (M' := M_X11_byteAt) (d' := 1) dX11_item_5 (Or.inl ml_X11_137) kb_X11_byteAt (by first | assumption | exact ⟨by decide, rfl⟩) (by first | decide | omega) (by simp [Value.category]) ⟨by decide, by decide⟩ ?_
  rw [hk]
  refine mr_byteAt hT (by omega) ⟨_, rfl, ?_⟩
  rw [show bya t len k = t k by rw [bya, if_pos hk2]]
  refine V_istore_1 dX11_item_8 (by decide) rfl (V_aload_n dX11_item_9 rfl rfl (V_dup dX11_item_10 rfl ?_))
  refine V_getI dX11_item_11 fl_X11_134 (by first | assumption | exact ⟨by decide, rfl⟩) ?_
  refine V_iconst (v := 1) dX11_item_14 (by decide) (V_iadd dX11_item_15 ?_)
  refine V_putI dX11_item_16 fl_X11_134 (by first | assumption | exact ⟨by decide, rfl⟩) ?_
  refine V_iload_n dX11_item_19 rfl rfl ?_
  rw [hk, nI_1]
  have hf1 : Fr1 I (up2 I 70 23 (nI (k + 1))) := Fr1.M1p (k := 0) (fun x y h => u2n (by omega))
  have Kk := Kk.fr hf1
  have hT1 : MTX (up2 I 70 23 (nI (k + 1))) t len := hT.fr hf1
  have hX1 : M1 (up2 I 70 23 (nI (k + 1))) K := hX.of (fun x y a b => u2n (by omega))
  have hp1 : up2 I 70 23 (nI (k + 1)) 70 23 = nI (k + 1) := u2e
  generalize up2 I 70 23 (nI (k + 1)) = I1 at *
  have hk5 : k + 1 ≤ 500 := by omega
  clear hu1
  generalize t k = u at *
  by_cases h97 : u = 97
  · subst h97
    refine V_tableIn (off := 112) (tgt := 132) dX11_item_20 (by decide) (by decide) (by decide) (by decide) ?_
    refine V_aload_n dX11_item_132 rfl rfl ?_
    refine V_cV0i (M' := M_X11_playerItem) (d' := 3) dX11_item_133 (Or.inl ml_X11_153) kb_X11_playerItem (by first | assumption | exact ⟨by decide, rfl⟩) (by first | decide | omega) (by simp [Value.category]) ⟨by decide, by decide⟩ ?_
    refine mr_playerItem hT1 hB hX1 hp1 hk5 ⟨fun hn I2 g => ⟨_, rfl, ?_⟩, fun p K' hs I2 g x y => ⟨_, rfl, ?_⟩⟩
    · refine V_ireturn dX11_item_136 rfl rfl rfl (by decide) (by decide) ?_
      exact Kk.1 hn I2 g
    · refine V_ireturn dX11_item_136 rfl rfl rfl (by decide) (by decide) ?_
      exact Kk.2 p K' hs I2 g x y
  by_cases h112 : u = 112
  · subst h112
    refine V_tableIn (off := 117) (tgt := 137) dX11_item_20 (by decide) (by decide) (by decide) (by decide) ?_
    refine V_aload_n dX11_item_137 rfl rfl ?_
    refine V_cV0i (M' := M_X11_partItem) (d' := 3) dX11_item_138 (Or.inl ml_X11_157) kb_X11_partItem (by first | assumption | exact ⟨by decide, rfl⟩) (by first | decide | omega) (by simp [Value.category]) ⟨by decide, by decide⟩ ?_
    refine mr_partItem hT1 hB hX1 hp1 hk5 ⟨fun hn I2 g => ⟨_, rfl, ?_⟩, fun p K' hs I2 g x y => ⟨_, rfl, ?_⟩⟩
    · refine V_ireturn dX11_item_141 rfl rfl rfl (by decide) (by decide) ?_
      exact Kk.1 hn I2 g
    · refine V_ireturn dX11_item_141 rfl rfl rfl (by decide) (by decide) ?_
      exact Kk.2 p K' hs I2 g x y
  by_cases h99 : u = 99
  · subst h99
    refine V_tableIn (off := 122) (tgt := 142) dX11_item_20 (by decide) (by decide) (by decide) (by decide) ?_
    refine V_aload_n dX11_item_142 rfl rfl ?_
    refine V_cV0i (M' := M_X11_sceneItem) (d' := 3) dX11_item_143 (Or.inl ml_X11_160) kb_X11_sceneItem (by first | assumption | exact ⟨by decide, rfl⟩) (by first | decide | omega) (by simp [Value.category]) ⟨by decide, by decide⟩ ?_
    refine mr_sceneItem hT1 hB hX1 hp1 hk5 ⟨fun hn I2 g => ⟨_, rfl, ?_⟩, fun p K' hs I2 g x y => ⟨_, rfl, ?_⟩⟩
    · refine V_ireturn dX11_item_146 rfl rfl rfl (by decide) (by decide) ?_
      exact Kk.1 hn I2 g
    · refine V_ireturn dX11_item_146 rfl rfl rfl (by decide) (by decide) ?_
      exact Kk.2 p K' hs I2 g x y
  by_cases h111 : u = 111
  · subst h111
    refine V_tableIn (off := 127) (tgt := 147) dX11_item_20 (by decide) (by decide) (by decide) (by decide) ?_
    have tk : ∀ l : List Nat, takeK K 111 (fun j => l.getD j 0) 2 = if l.getD 0 0 < K 0 0 ∧ l.getD 1 0 < K 0 1 then some (aOw K (l.getD 0 0) (l.getD 1 0)) else none := fun l => by simp [takeK]
    refine V_aload_n dX11_item_147 rfl rfl ?_
    refine V_cV0i (M' := M_X11_isPair) (d' := 3) dX11_item_148 (Or.inl ml_X11_163) kb_X11_isPair (by first | assumption | exact ⟨by decide, rfl⟩) (by first | decide | omega) (by simp [Value.category]) ⟨by decide, by decide⟩ ?_
    refine mr_isPair hT1 hB hX1 hp1 hk5 (fun I2 g hn => ⟨_, rfl, ?_⟩) (fun p l hs hla hlb I2 g g2 l0 l1 => ⟨_, rfl, ?_⟩)
    · refine V_if_ne_f (tgt := 156) dX11_item_151 (by decide) (rfl) ?_
      refine V_iconst (v := 0) dX11_item_154 (by decide) ?_
      refine V_ireturn dX11_item_155 rfl rfl rfl (by decide) (by decide) ?_
      refine Kk.1 ?_ I2 (Fr1.fig g)
      rcases hn with hn | ⟨p, l, hs, hn⟩
      · exact rif_none hn
      · show rif t len 2 111 K (k + 1) = none
        rw [rif_some hs, tk, if_neg hn]; rfl
    · have hX := hX1.fig g
      have hr : rif t len 2 111 K (k + 1) = some (p, aOw K (l.getD 0 0) (l.getD 1 0)) := by rw [rif_some hs, tk, if_pos ⟨hla, hlb⟩]; rfl
      generalize l.getD 0 0 = a at *
      generalize l.getD 1 0 = b at *
      refine V_if_ne_t (tgt := 156) dX11_item_151 (by decide) (by decide) ?_
      refine V_aload_n dX11_item_156 rfl rfl ?_
      refine V_getR dX11_item_157 fl_X11_37 (by first | assumption | exact ⟨by decide, rfl⟩) (by first | assumption | rfl) ?_
      refine V_bipush (v := 8) dX11_item_160 (by decide) (V_aload_n dX11_item_162 rfl rfl ?_)
      refine V_getR dX11_item_163 fl_X11_73 (by first | assumption | exact ⟨by decide, rfl⟩) (by first | assumption | rfl) ?_
      refine V_iconst (v := 1) dX11_item_166 (by decide) ?_
      refine V_ial dX11_item_167 (by first | assumption | exact ⟨by decide, rfl⟩) (show ix _ 1 _ from ⟨rfl, by decide⟩) ?_
      refine V_iadd dX11_item_168 (V_aload_n dX11_item_169 rfl rfl ?_)
      refine V_getR dX11_item_170 fl_X11_73 (by first | assumption | exact ⟨by decide, rfl⟩) (by first | assumption | rfl) ?_
      refine V_iconst (v := 0) dX11_item_173 (by decide) ?_
      refine V_ial dX11_item_174 (by first | assumption | exact ⟨by decide, rfl⟩) (show ix _ 0 _ from ⟨rfl, by decide⟩) ?_
      refine V_ias dX11_item_175 (by first | assumption | exact ⟨by decide, rfl⟩) (show ix _ (8 + b) 16 from ⟨(by rw [l1, show (8 : Int32) = nI 8 from rfl, nI_add]), by omega⟩) ?_
      refine V_iconst (v := 1) dX11_item_176 (by decide) ?_
      refine V_ireturn dX11_item_177 rfl rfl rfl (by decide) (by decide) ?_
      refine Kk.2 p _ hr _ (fun x y a b c => by have := ofs_f x; rw [u2n (by omega)]; exact g x y a b) (by rw [u2n (by omega)]; exact g2) ?_
      obtain ⟨a1, a2, a3, a4, b1, b2, b3, b4, b5, d1, d2, e, f1, f2, f3, f4, g, k1, k2, l⟩ := hX
      refine ⟨?_, ?_, ?_, ?_, ?_, ?_, ?_, ?_, ?_, fun p hp => ?_, fun p hp => ?_, fun p hp => ?_, fun p hp => ?_, fun p hp => ?_, fun p hp => ?_, fun p hp => ?_, fun p hp => ?_, fun p hp => ?_, fun p hp => ?_, fun p hp => ?_⟩
      · simp [up2, aOw, a1, nI_1]
      · simp [up2, aOw, a2, nI_1]
      · simp [up2, aOw, a3, nI_1]
      · simp [up2, aOw, a4, nI_1]
      · simp [up2, aOw, b1, nI_1]
      · simp [up2, aOw, b2, nI_1]
      · simp [up2, aOw, b3, nI_1]
      · simp [up2, aOw, b4, nI_1]
      · simp [up2, aOw, b5, nI_1]
      · have hp : p < K 0 0 := by simpa [up2, aOw] using hp
        simp [up2, aOw, d1 p hp]
      · have hp : p < K 0 0 := by simpa [up2, aOw] using hp
        simp [up2, aOw, d2 p hp]
      · simp [up2, aOw, e p hp]
      · have hp : p < K 0 1 := by simpa [up2, aOw] using hp
        simp [up2, aOw, f1 p hp]
      · have hp : p < K 0 1 := by simpa [up2, aOw] using hp
        simp [up2, aOw, f2 p hp]
      · have hp : p < K 0 1 := by simpa [up2, aOw] using hp
        simp [up2, aOw, f3 p hp]
      · have hp : p < K 0 1 := by simpa [up2, aOw] using hp
        simp [up2, aOw, f4 p hp]
      · have z := g p hp
        by_cases h : p = b
        · subst h; simp [up2, aOw, l0, owv]
        · simp [up2, aOw, h, z]
      · have hp : p < K 0 2 := by simpa [up2, aOw] using hp
        simp [up2, aOw, k1 p hp]
      · have hp : p < K 0 2 := by simpa [up2, aOw] using hp
        simp [up2, aOw, k2 p hp]
      · simp [up2, aOw, l p hp]
  by_cases h107 : u = 107
  · subst h107
    refine V_tableIn (off := 158) (tgt := 178) dX11_item_20 (by decide) (by decide) (by decide) (by decide) ?_
    have tk : ∀ l : List Nat, takeK K 107 (fun j => l.getD j 0) 2 = if K 0 3 < 24 ∧ l.getD 0 0 < K 0 0 ∧ l.getD 1 0 < K 0 1 then some (aKn K (l.getD 0 0) (l.getD 1 0)) else none := fun l => by simp [takeK]
    have hC := hB.1.2.2.2.1
    refine V_aload_n dX11_item_178 rfl rfl ?_
    refine V_cV0i (M' := M_X11_isPair) (d' := 3) dX11_item_179 (Or.inl ml_X11_163) kb_X11_isPair (by first | assumption | exact ⟨by decide, rfl⟩) (by first | decide | omega) (by simp [Value.category]) ⟨by decide, by decide⟩ ?_
    refine mr_isPair hT1 hB hX1 hp1 hk5 (fun I2 g hn => ⟨_, rfl, ?_⟩) (fun p l hs hla hlb I2 g g2 l0 l1 => ⟨_, rfl, ?_⟩)
    · refine V_if_eq_t (tgt := 196) dX11_item_182 (by decide) (rfl) ?_
      refine V_iconst (v := 0) dX11_item_196 (by decide) ?_
      refine V_ireturn dX11_item_197 rfl rfl rfl (by decide) (by decide) ?_
      refine Kk.1 ?_ I2 (Fr1.fig g)
      rcases hn with hn | ⟨p, l, hs, hn⟩
      · exact rif_none hn
      · show rif t len 2 107 K (k + 1) = none
        rw [rif_some hs, tk, if_neg (fun z => hn z.2)]; rfl
    · have hX := hX1.fig g
      have hr : rif t len 2 107 K (k + 1) = _ := rif_some hs
      rw [tk] at hr
      generalize l.getD 0 0 = a at *
      generalize l.getD 1 0 = b at *
      by_cases c1 : K 0 3 < 24
      · rw [if_pos ⟨c1, hla, hlb⟩] at hr
        have n1 : ¬ I2 84 1 = 24 := by rw [hX.2.2.2.1, show (24 : Int32) = nI 24 from rfl]; exact fun z => by have := (nI_eq (by omega) (by omega)).mp z; omega
        have hsh : (1 : Int32) <<< (I2 92 1 &&& 31) = nI (2 ^ b) := by rw [l1, shl1 (by omega)]
        have hi : ix ((10 : Int32) + I2 92 0) (10 + a) 20 := ⟨by rw [l0, show (10 : Int32) = nI 10 from rfl, nI_add], by omega⟩
        refine V_if_eq_f (tgt := 196) dX11_item_182 (by decide) (by decide) ?_
        refine V_aload_n dX11_item_185 rfl rfl ?_
        refine V_getR dX11_item_186 fl_X11_49 (by first | assumption | exact ⟨by decide, rfl⟩) (by first | assumption | rfl) ?_
        refine V_iconst (v := 1) dX11_item_189 (by decide) ?_
        refine V_ial dX11_item_190 (by first | assumption | exact ⟨by decide, rfl⟩) (show ix _ 1 _ from ⟨rfl, by decide⟩) ?_
        refine V_bipush (v := 24) dX11_item_191 (by decide) ?_
        refine V_icmp_ne_t (tgt := 198) dX11_item_193 (by decide) (n1) ?_
        refine V_aload_n dX11_item_198 rfl rfl ?_
        refine V_getR dX11_item_199 fl_X11_52 (by first | assumption | exact ⟨by decide, rfl⟩) (by first | assumption | rfl) ?_
        refine V_bipush (v := 10) dX11_item_202 (by decide) (V_aload_n dX11_item_204 rfl rfl ?_)
        refine V_getR dX11_item_205 fl_X11_73 (by first | assumption | exact ⟨by decide, rfl⟩) (by first | assumption | rfl) ?_
        refine V_iconst (v := 0) dX11_item_208 (by decide) ?_
        refine V_ial dX11_item_209 (by first | assumption | exact ⟨by decide, rfl⟩) (show ix _ 0 _ from ⟨rfl, by decide⟩) ?_
        refine V_iadd dX11_item_210 (V_dup2 dX11_item_211 rfl rfl ?_)
        refine V_ial dX11_item_212 (by first | assumption | exact ⟨by decide, rfl⟩) hi ?_
        refine V_iconst (v := 1) dX11_item_213 (by decide) (V_aload_n dX11_item_214 rfl rfl ?_)
        refine V_getR dX11_item_215 fl_X11_73 (by first | assumption | exact ⟨by decide, rfl⟩) (by first | assumption | rfl) ?_
        refine V_iconst (v := 1) dX11_item_218 (by decide) ?_
        refine V_ial dX11_item_219 (by first | assumption | exact ⟨by decide, rfl⟩) (show ix _ 1 _ from ⟨rfl, by decide⟩) ?_
        refine V_ishl dX11_item_220 (V_ior dX11_item_221 ?_)
        refine V_ias dX11_item_222 (by first | assumption | exact ⟨by decide, rfl⟩) hi ?_
        refine V_aload_n dX11_item_223 rfl rfl ?_
        refine V_getR dX11_item_224 fl_X11_49 (by first | assumption | exact ⟨by decide, rfl⟩) (by first | assumption | rfl) ?_
        refine V_iconst (v := 1) dX11_item_227 (by decide) (V_dup2 dX11_item_228 rfl rfl ?_)
        refine V_ial dX11_item_229 (by first | assumption | exact ⟨by decide, rfl⟩) (show ix _ 1 _ from ⟨rfl, by decide⟩) ?_
        refine V_iconst (v := 1) dX11_item_230 (by decide) (V_iadd dX11_item_231 ?_)
        refine V_ias dX11_item_232 (by first | assumption | exact ⟨by decide, rfl⟩) (show ix _ 1 _ from ⟨rfl, by decide⟩) ?_
        refine V_iconst (v := 1) dX11_item_233 (by decide) ?_
        refine V_ireturn dX11_item_234 rfl rfl rfl (by decide) (by decide) ?_
        refine Kk.2 p _ hr _ (fun x y a b c => by have := ofs_f x; rw [u2n (by omega), u2n (by omega)]; exact g x y a b) (by rw [u2n (by omega), u2n (by omega)]; exact g2) ?_
        rw [hsh]
        obtain ⟨a1, a2, a3, a4, b1, b2, b3, b4, b5, d1, d2, e, f1, f2, f3, f4, g, k1, k2, l⟩ := hX
        refine ⟨?_, ?_, ?_, ?_, ?_, ?_, ?_, ?_, ?_, fun p hp => ?_, fun p hp => ?_, fun p hp => ?_, fun p hp => ?_, fun p hp => ?_, fun p hp => ?_, fun p hp => ?_, fun p hp => ?_, fun p hp => ?_, fun p hp => ?_, fun p hp => ?_⟩
        · simp [up2, aKn, a1, nI_1]
        · simp [up2, aKn, a2, nI_1]
        · simp [up2, aKn, a3, nI_1]
        · simp [up2, aKn, a4, nI_1]
        · simp [up2, aKn, b1, nI_1]
        · simp [up2, aKn, b2, nI_1]
        · simp [up2, aKn, b3, nI_1]
        · simp [up2, aKn, b4, nI_1]
        · simp [up2, aKn, b5, nI_1]
        · have hp : p < K 0 0 := by simpa [up2, aKn] using hp
          simp [up2, aKn, d1 p hp]
        · have hp : p < K 0 0 := by simpa [up2, aKn] using hp
          simp [up2, aKn, d2 p hp]
        · have z := e p hp
          by_cases h : p = a
          · subst h; simp [up2, aKn, z, or_nI]
          · simp [up2, aKn, h, z]
        · have hp : p < K 0 1 := by simpa [up2, aKn] using hp
          simp [up2, aKn, f1 p hp]
        · have hp : p < K 0 1 := by simpa [up2, aKn] using hp
          simp [up2, aKn, f2 p hp]
        · have hp : p < K 0 1 := by simpa [up2, aKn] using hp
          simp [up2, aKn, f3 p hp]
        · have hp : p < K 0 1 := by simpa [up2, aKn] using hp
          simp [up2, aKn, f4 p hp]
        · simp [up2, aKn, g p hp]
        · have hp : p < K 0 2 := by simpa [up2, aKn] using hp
          simp [up2, aKn, k1 p hp]
        · have hp : p < K 0 2 := by simpa [up2, aKn] using hp
          simp [up2, aKn, k2 p hp]
        · simp [up2, aKn, l p hp]
      · rw [if_neg (fun z => c1 z.1)] at hr
        have n1 : I2 84 1 = 24 := by rw [hX.2.2.2.1, show K 0 3 = 24 by omega]; rfl
        refine V_if_eq_f (tgt := 196) dX11_item_182 (by decide) (by decide) ?_
        refine V_aload_n dX11_item_185 rfl rfl ?_
        refine V_getR dX11_item_186 fl_X11_49 (by first | assumption | exact ⟨by decide, rfl⟩) (by first | assumption | rfl) ?_
        refine V_iconst (v := 1) dX11_item_189 (by decide) ?_
        refine V_ial dX11_item_190 (by first | assumption | exact ⟨by decide, rfl⟩) (show ix _ 1 _ from ⟨rfl, by decide⟩) ?_
        refine V_bipush (v := 24) dX11_item_191 (by decide) ?_
        refine V_icmp_ne_f (tgt := 198) dX11_item_193 (by decide) (n1) ?_
        refine V_iconst (v := 0) dX11_item_196 (by decide) ?_
        refine V_ireturn dX11_item_197 rfl rfl rfl (by decide) (by decide) ?_
        exact Kk.1 hr I2 (Fr1.fig g)
  by_cases h120 : u = 120
  · subst h120
    refine V_tableIn (off := 215) (tgt := 235) dX11_item_20 (by decide) (by decide) (by decide) (by decide) ?_
    refine V_aload_n dX11_item_235 rfl rfl ?_
    refine V_cV0i (M' := M_X11_coldItem) (d' := 3) dX11_item_236 (Or.inl ml_X11_166) kb_X11_coldItem (by first | assumption | exact ⟨by decide, rfl⟩) (by first | decide | omega) (by simp [Value.category]) ⟨by decide, by decide⟩ ?_
    refine mr_coldItem hT1 hB hX1 hp1 hk5 ⟨fun hn I2 g => ⟨_, rfl, ?_⟩, fun p K' hs I2 g x y => ⟨_, rfl, ?_⟩⟩
    · refine V_ireturn dX11_item_239 rfl rfl rfl (by decide) (by decide) ?_
      exact Kk.1 hn I2 g
    · refine V_ireturn dX11_item_239 rfl rfl rfl (by decide) (by decide) ?_
      exact Kk.2 p K' hs I2 g x y
  by_cases h109 : u = 109
  · subst h109
    refine V_tableIn (off := 220) (tgt := 240) dX11_item_20 (by decide) (by decide) (by decide) (by decide) ?_
    refine V_aload_n dX11_item_240 rfl rfl (V_iconst (v := 0) dX11_item_241 (by decide) (V_bipush (v := 99) dX11_item_242 (by decide) ?_))
    refine V_cV2i (M' := M_X11_numberItem) (d' := 3) dX11_item_244 (Or.inl ml_X11_169) kb_X11_numberItem (by first | assumption | exact ⟨by decide, rfl⟩) (by first | decide | omega) (by simp [Value.category]) ⟨by decide, by decide⟩ ?_
    refine mr_numberItem (q := 0) (mo := 99) (u := 109) hT1 hX1 hp1 hk5 (by omega) ⟨fun hn I2 g => ⟨_, rfl, ?_⟩, fun p K' hs I2 g x y => ⟨_, rfl, ?_⟩⟩
    · refine V_ireturn dX11_item_247 rfl rfl rfl (by decide) (by decide) ?_
      exact Kk.1 hn I2 g
    · refine V_ireturn dX11_item_247 rfl rfl rfl (by decide) (by decide) ?_
      exact Kk.2 p K' hs I2 g x y
  by_cases h116 : u = 116
  · subst h116
    refine V_tableIn (off := 228) (tgt := 248) dX11_item_20 (by decide) (by decide) (by decide) (by decide) ?_
    refine V_aload_n dX11_item_248 rfl rfl (V_iconst (v := 1) dX11_item_249 (by decide) (V_bipush (v := 9) dX11_item_250 (by decide) ?_))
    refine V_cV2i (M' := M_X11_numberItem) (d' := 3) dX11_item_252 (Or.inl ml_X11_169) kb_X11_numberItem (by first | assumption | exact ⟨by decide, rfl⟩) (by first | decide | omega) (by simp [Value.category]) ⟨by decide, by decide⟩ ?_
    refine mr_numberItem (q := 1) (mo := 9) (u := 116) hT1 hX1 hp1 hk5 (by omega) ⟨fun hn I2 g => ⟨_, rfl, ?_⟩, fun p K' hs I2 g x y => ⟨_, rfl, ?_⟩⟩
    · refine V_ireturn dX11_item_255 rfl rfl rfl (by decide) (by decide) ?_
      exact Kk.1 hn I2 g
    · refine V_ireturn dX11_item_255 rfl rfl rfl (by decide) (by decide) ?_
      exact Kk.2 p K' hs I2 g x y
  by_cases h102 : u = 102
  · subst h102
    refine V_tableIn (off := 236) (tgt := 256) dX11_item_20 (by decide) (by decide) (by decide) (by decide) ?_
    refine V_aload_n dX11_item_256 rfl rfl (V_iconst (v := 2) dX11_item_257 (by decide) (V_bipush (v := 99) dX11_item_258 (by decide) ?_))
    refine V_cV2i (M' := M_X11_numberItem) (d' := 3) dX11_item_260 (Or.inl ml_X11_169) kb_X11_numberItem (by first | assumption | exact ⟨by decide, rfl⟩) (by first | decide | omega) (by simp [Value.category]) ⟨by decide, by decide⟩ ?_
    refine mr_numberItem (q := 2) (mo := 99) (u := 102) hT1 hX1 hp1 hk5 (by omega) ⟨fun hn I2 g => ⟨_, rfl, ?_⟩, fun p K' hs I2 g x y => ⟨_, rfl, ?_⟩⟩
    · refine V_ireturn dX11_item_263 rfl rfl rfl (by decide) (by decide) ?_
      exact Kk.1 hn I2 g
    · refine V_ireturn dX11_item_263 rfl rfl rfl (by decide) (by decide) ?_
      exact Kk.2 p K' hs I2 g x y
  by_cases h119 : u = 119
  · subst h119
    refine V_tableIn (off := 244) (tgt := 264) dX11_item_20 (by decide) (by decide) (by decide) (by decide) ?_
    have tk : ∀ l : List Nat, takeK K 119 (fun j => l.getD j 0) 2 = if l.getD 1 0 ≤ 99 then some (aPy K (l.getD 0 0) (l.getD 1 0)) else none := fun l => by simp [takeK]
    refine V_aload_n dX11_item_264 rfl rfl (V_iconst (v := 2) dX11_item_265 (by decide) ?_)
    refine V_cV1i (M' := M_X11_figures) (d' := 2) dX11_item_266 (Or.inl ml_X11_147) kb_X11_figures (by first | assumption | exact ⟨by decide, rfl⟩) (by first | decide | omega) (by simp [Value.category]) ⟨by decide, by decide⟩ ?_
    refine mr_figures hT1 (m := 2) (by decide) hp1 hk5 (fun hn I2 g => ⟨_, rfl, ?_⟩) (fun p l hs I2 g g2 g3 => ⟨_, rfl, ?_⟩)
    · refine V_if_eq_t (tgt := 283) dX11_item_269 (by decide) (rfl) ?_
      refine V_iconst (v := 0) dX11_item_283 (by decide) ?_
      refine V_ireturn dX11_item_284 rfl rfl rfl (by decide) (by decide) ?_
      exact Kk.1 (rif_none hn) I2 (Fr1.fig g)
    · have hX := hX1.fig g
      have hr : rif t len 2 119 K (k + 1) = _ := rif_some hs
      rw [tk] at hr
      have hle := (fgs_le t len 2 _ p l hs).1
      have l0 := g3 0 (by decide)
      have l1 := g3 1 (by decide)
      have b1 := hle 1
      generalize l.getD 0 0 = a at *
      generalize l.getD 1 0 = b at *
      by_cases c1 : b ≤ 99
      · rw [if_pos c1] at hr
        refine V_if_eq_f (tgt := 283) dX11_item_269 (by decide) (by decide) ?_
        refine V_aload_n dX11_item_272 rfl rfl ?_
        refine V_getR dX11_item_273 fl_X11_73 (by first | assumption | exact ⟨by decide, rfl⟩) (by first | assumption | rfl) ?_
        refine V_iconst (v := 1) dX11_item_276 (by decide) ?_
        refine V_ial dX11_item_277 (by first | assumption | exact ⟨by decide, rfl⟩) (show ix _ 1 _ from ⟨rfl, by decide⟩) ?_
        refine V_bipush (v := 99) dX11_item_278 (by decide) ?_
        refine V_icmp_le_t (tgt := 285) dX11_item_280 (by decide) (by rw [l1, show (99 : Int32) = nI 99 from rfl, lit_le (by omega) (by omega)]; omega) ?_
        refine V_aload_n dX11_item_285 rfl rfl ?_
        refine V_getR dX11_item_286 fl_X11_58 (by first | assumption | exact ⟨by decide, rfl⟩) (by first | assumption | rfl) ?_
        refine V_bipush (v := 8) dX11_item_289 (by decide) (V_aload_n dX11_item_291 rfl rfl ?_)
        refine V_getR dX11_item_292 fl_X11_73 (by first | assumption | exact ⟨by decide, rfl⟩) (by first | assumption | rfl) ?_
        refine V_iconst (v := 0) dX11_item_295 (by decide) ?_
        refine V_ial dX11_item_296 (by first | assumption | exact ⟨by decide, rfl⟩) (show ix _ 0 _ from ⟨rfl, by decide⟩) ?_
        refine V_ias dX11_item_297 (by first | assumption | exact ⟨by decide, rfl⟩) (show ix _ 8 _ from ⟨rfl, by decide⟩) ?_
        refine V_aload_n dX11_item_298 rfl rfl ?_
        refine V_getR dX11_item_299 fl_X11_58 (by first | assumption | exact ⟨by decide, rfl⟩) (by first | assumption | rfl) ?_
        refine V_bipush (v := 9) dX11_item_302 (by decide) (V_aload_n dX11_item_304 rfl rfl ?_)
        refine V_getR dX11_item_305 fl_X11_73 (by first | assumption | exact ⟨by decide, rfl⟩) (by first | assumption | rfl) ?_
        refine V_iconst (v := 1) dX11_item_308 (by decide) ?_
        refine V_ial dX11_item_309 (by first | assumption | exact ⟨by decide, rfl⟩) (show ix _ 1 _ from ⟨rfl, by decide⟩) ?_
        refine V_ias dX11_item_310 (by first | assumption | exact ⟨by decide, rfl⟩) (show ix _ 9 _ from ⟨rfl, by decide⟩) ?_
        refine V_iconst (v := 1) dX11_item_311 (by decide) ?_
        refine V_ireturn dX11_item_312 rfl rfl rfl (by decide) (by decide) ?_
        refine Kk.2 p _ hr _ (fun x y a b c => by have := ofs_f x; rw [u2n (by omega), u2n (by omega)]; exact g x y a b) (by rw [u2n (by omega), u2n (by omega)]; exact g2) ?_
        obtain ⟨a1, a2, a3, a4, b1, b2, b3, b4, b5, d1, d2, e, f1, f2, f3, f4, g, k1, k2, l⟩ := hX
        refine ⟨?_, ?_, ?_, ?_, ?_, ?_, ?_, ?_, ?_, fun p hp => ?_, fun p hp => ?_, fun p hp => ?_, fun p hp => ?_, fun p hp => ?_, fun p hp => ?_, fun p hp => ?_, fun p hp => ?_, fun p hp => ?_, fun p hp => ?_, fun p hp => ?_⟩
        · simp [up2, aPy, l0, l1, a1, nI_1]
        · simp [up2, aPy, l0, l1, a2, nI_1]
        · simp [up2, aPy, l0, l1, a3, nI_1]
        · simp [up2, aPy, l0, l1, a4, nI_1]
        · simp [up2, aPy, l0, l1, b1, nI_1]
        · simp [up2, aPy, l0, l1, b2, nI_1]
        · simp [up2, aPy, l0, l1, b3, nI_1]
        · simp [up2, aPy, l0, l1, b4, nI_1]
        · simp [up2, aPy, l0, l1, b5, nI_1]
        · have hp : p < K 0 0 := by simpa [up2, aPy, l0, l1] using hp
          simp [up2, aPy, l0, l1, d1 p hp]
        · have hp : p < K 0 0 := by simpa [up2, aPy, l0, l1] using hp
          simp [up2, aPy, l0, l1, d2 p hp]
        · simp [up2, aPy, l0, l1, e p hp]
        · have hp : p < K 0 1 := by simpa [up2, aPy, l0, l1] using hp
          simp [up2, aPy, l0, l1, f1 p hp]
        · have hp : p < K 0 1 := by simpa [up2, aPy, l0, l1] using hp
          simp [up2, aPy, l0, l1, f2 p hp]
        · have hp : p < K 0 1 := by simpa [up2, aPy, l0, l1] using hp
          simp [up2, aPy, l0, l1, f3 p hp]
        · have hp : p < K 0 1 := by simpa [up2, aPy, l0, l1] using hp
          simp [up2, aPy, l0, l1, f4 p hp]
        · simp [up2, aPy, l0, l1, g p hp]
        · have hp : p < K 0 2 := by simpa [up2, aPy, l0, l1] using hp
          simp [up2, aPy, l0, l1, k1 p hp]
        · have hp : p < K 0 2 := by simpa [up2, aPy, l0, l1] using hp
          simp [up2, aPy, l0, l1, k2 p hp]
        · simp [up2, aPy, l0, l1, l p hp]
      · rw [if_neg c1] at hr
        refine V_if_eq_f (tgt := 283) dX11_item_269 (by decide) (by decide) ?_
        refine V_aload_n dX11_item_272 rfl rfl ?_
        refine V_getR dX11_item_273 fl_X11_73 (by first | assumption | exact ⟨by decide, rfl⟩) (by first | assumption | rfl) ?_
        refine V_iconst (v := 1) dX11_item_276 (by decide) ?_
        refine V_ial dX11_item_277 (by first | assumption | exact ⟨by decide, rfl⟩) (show ix _ 1 _ from ⟨rfl, by decide⟩) ?_
        refine V_bipush (v := 99) dX11_item_278 (by decide) ?_
        refine V_icmp_le_f (tgt := 285) dX11_item_280 (by decide) (by rw [l1, show (99 : Int32) = nI 99 from rfl, lit_le (by omega) (by omega)]; omega) ?_
        refine V_iconst (v := 0) dX11_item_283 (by decide) ?_
        refine V_ireturn dX11_item_284 rfl rfl rfl (by decide) (by decide) ?_
        exact Kk.1 hr I2 (Fr1.fig g)
  have hi : (nI u).toInt = u := nI_toInt (by omega)
  have fin : V E 4 M_X11_item Post 313 [some (.ref 70), some (.int (nI u))] [] NC 0 0 I1 J (RR co dr cc a1 a2) := by
    refine V_iconst (v := 0) dX11_item_313 (by decide) ?_
    refine V_ireturn dX11_item_314 rfl rfl rfl (by decide) (by decide) ?_
    refine Kk.1 ?_ I1 Fr1.rfl'
    have hit : itn u := ⟨h97, h112, h99, h111, h107, h120, h109, h116, h102, h119⟩
    unfold rif
    cases fgs t len (cnt u) (k + 1) with
    | none => rfl
    | some q =>
      show Option.map _ (takeK K u _ _) = none
      rw [takeK_cnt (Or.inr hit)]; rfl
  by_cases hr : 97 ≤ u ∧ u ≤ 120
  · refine V_tableIn (off := 293) (tgt := 313) dX11_item_20 (by rw [hi]; omega) (by rw [hi]; omega) ?_ (by decide) fin
    rw [hi, show ((u : Int) - 97).toNat = u - 97 by omega]
    exact item_tab (u - 97) (by omega) (by omega)
  · exact V_tableOut (tgt := 313) dX11_item_20 (by rw [hi]; omega) (by decide) fin
theorem rdF_none {f : Nat} (hk : k < len) (h : rif t len (cnt (t k)) (t k) K (k + 1) = none) : rdF t len (f + 1) K k = (some k, K) := by
  rw [item_eq] at h
  unfold rdF
  rw [if_neg (by omega)]
  cases he : eoi t len 4 (k + 1) with
  | none => rfl
  | some q =>
    rw [he] at h
    obtain ⟨p, l⟩ := q
    have h2 : Option.map (fun K' => (p, K')) (takeK K (t k) (fun j => l.getD j 0) l.length) = none := h
    cases hk : takeK K (t k) (fun j => l.getD j 0) l.length with
    | none => show (match takeK K (t k) (fun j => l.getD j 0) l.length with | none => _ | some K' => _) = _; rw [hk]
    | some K' => rw [hk] at h2; cases h2
theorem rdF_some {f p : Nat} {K' : KT} (hk : k < len) (h : rif t len (cnt (t k)) (t k) K (k + 1) = some (p, K')) : rdF t len (f + 1) K k = rdF t len f K' p ∧ k < p ∧ p ≤ len ∧ (KB K → KB K') := by
  rw [item_eq] at h
  cases he : eoi t len 4 (k + 1) with
  | none => rw [he] at h; cases h
  | some q =>
    obtain ⟨p', l⟩ := q
    rw [he] at h
    have h2 : Option.map (fun K' => (p', K')) (takeK K (t k) (fun j => l.getD j 0) l.length) = some (p, K') := h
    cases hk2 : takeK K (t k) (fun j => l.getD j 0) l.length with
    | none => rw [hk2] at h2; cases h2
    | some K9 =>
      rw [hk2] at h2
      have h9 := Option.some.inj h2
      obtain ⟨rfl, rfl⟩ : p' = p ∧ K9 = K' := ⟨congrArg Prod.fst h9, congrArg Prod.snd h9⟩
      obtain ⟨e1, e2, e3, e4, e5⟩ := eoi_ok t len 4 _ _ _ he
      refine ⟨?_, by omega, e2, fun hB => takeK_KB hB e5 hk2⟩
      rw [rdF, if_neg (by omega), he]
      show (match takeK K (t k) (fun j => l.getD j 0) l.length with | none => _ | some K' => _) = _
      rw [hk2]
theorem mr_readAll (hT : MTX I t len) (Kk : ∀ I', Fr1 I I' → KB (rdF t len (len + 1) K0 0).2 → ((rdF t len (len + 1) K0 0).1 = none → M1 I' (rdF t len (len + 1) K0 0).2) → Post (some (.int (flt (rdF t len (len + 1) K0 0).1))) NC I' J (RR co dr cc a1 a2)) : Cal E 5 M_X11_readAll [.ref 70] NC I J (RR co dr cc a1 a2) Post := by
  have hl := hT.1
  refine Cal_of kn_X11_readAll rfl (Nat.le_of_ble_eq_true rfl) ?_
  refine V_aload_n dX11_readAll_0 rfl rfl (V_iconst (v := 1) dX11_readAll_1 (by decide) ?_)
  refine V_cV1v (M' := M_X11_noCompany) (d' := 1) dX11_readAll_2 (Or.inl ml_X11_115) kb_X11_noCompany (by first | assumption | exact ⟨by decide, rfl⟩) (by first | decide | omega) (by simp [Value.category]) ⟨by decide, by decide⟩ ?_
  refine mr_noCompany (b := 1) (by decide) (fun I1 n1 n2 n3 n4 n5 n6 => ⟨rfl, ?_⟩)
  have f1 : Fr1 I I1 := fun x y a b c => n1 x y (by omega)
  have hX : M1 I1 K0 := by
    refine ⟨n2.1, n2.2.1, n2.2.2.1, n2.2.2.2, n6.1, n6.2.1, n6.2.2.1, n6.2.2.2.1, n6.2.2.2.2, fun p hp => absurd hp (by show ¬ p < 0; omega), fun p hp => absurd hp (by show ¬ p < 0; omega), fun p hp => n3 p hp, fun p hp => absurd hp (by show ¬ p < 0; omega), fun p hp => absurd hp (by show ¬ p < 0; omega), fun p hp => absurd hp (by show ¬ p < 0; omega), fun p hp => absurd hp (by show ¬ p < 0; omega), fun p hp => n4 p hp, fun p hp => absurd hp (by show ¬ p < 0; omega), fun p hp => absurd hp (by show ¬ p < 0; omega), fun p hp => n5 p hp⟩
  refine V_aload_n dX11_readAll_5 rfl rfl (V_iconst (v := 0) dX11_readAll_6 (by decide) ?_)
  refine V_putI dX11_readAll_7 fl_X11_134 (by first | assumption | exact ⟨by decide, rfl⟩) ?_
  have key : ∀ f k K I2, len < k + f → k ≤ len → Fr1 I I2 → I2 70 23 = nI k → KB K → M1 I2 K → (∀ I', Fr1 I I' → KB (rdF t len f K k).2 → ((rdF t len f K k).1 = none → M1 I' (rdF t len f K k).2) → Post (some (.int (flt (rdF t len f K k).1))) NC I' J (RR co dr cc a1 a2)) → V E 5 M_X11_readAll Post 10 [some (.ref 70), none] [] NC 0 0 I2 J (RR co dr cc a1 a2) := by
    intro f
    induction f with
    | zero => intro k K I2 hf hk; omega
    | succ f ih =>
      intro k K I2 hf hkl g1 g2 hB hX2 Kz
      have hT2 : MTX I2 t len := hT.fr g1
      by_cases hk : k < len
      · refine V_aload_n dX11_readAll_10 rfl rfl ?_
        refine V_getI dX11_readAll_11 fl_X11_134 (by first | assumption | exact ⟨by decide, rfl⟩) ?_
        refine V_aload_n dX11_readAll_14 rfl rfl ?_
        refine V_getI dX11_readAll_15 fl_X11_128 (by first | assumption | exact ⟨by decide, rfl⟩) ?_
        refine V_icmp_ge_f (tgt := 38) dX11_readAll_18 (by decide) (by rw [g2, hT2.2.1]; exact nI_ge hk (by omega)) ?_
        refine V_aload_n dX11_readAll_21 rfl rfl ?_
        refine V_getI dX11_readAll_22 fl_X11_134 (by first | assumption | exact ⟨by decide, rfl⟩) ?_
        refine V_istore_1 dX11_readAll_25 (by decide) rfl (V_aload_n dX11_readAll_26 rfl rfl ?_)
        refine V_cV0i (M' := M_X11_item) (d' := 4) dX11_readAll_27 (Or.inl ml_X11_173) kb_X11_item (by first | assumption | exact ⟨by decide, rfl⟩) (by first | decide | omega) (by simp [Value.category]) ⟨by decide, by decide⟩ ?_
        rw [g2]
        refine mr_item hT2 hB hX2 g2 hk ⟨fun hn I3 g3 => ⟨_, rfl, ?_⟩, fun p K' hs I3 g3 x y => ⟨_, rfl, ?_⟩⟩
        · have e := rdF_none (f := f) hk hn
          rw [e] at Kz
          refine V_if_ne_f (tgt := 35) dX11_readAll_30 (by decide) (rfl) ?_
          refine V_iload_n dX11_readAll_33 rfl rfl ?_
          refine V_ireturn dX11_readAll_34 rfl rfl rfl (by decide) (by decide) ?_
          exact Kz I3 (g1.trans g3) hB (fun z => by cases z)
        · obtain ⟨e1, e2, e3, e4⟩ := rdF_some (f := f) hk hs
          rw [e1] at Kz
          refine V_if_ne_t (tgt := 35) dX11_readAll_30 (by decide) (by decide) ?_
          refine V_goto (tgt := 10) dX11_readAll_35 (by decide) ?_
          exact V_forget (ih p K' I3 (by omega) e3 (g1.trans g3) x (e4 hB) y Kz) (by simp [lessb])
      · have e : rdF t len (f + 1) K k = (none, K) := rdF_end (by omega)
        rw [e] at Kz
        refine V_aload_n dX11_readAll_10 rfl rfl ?_
        refine V_getI dX11_readAll_11 fl_X11_134 (by first | assumption | exact ⟨by decide, rfl⟩) ?_
        refine V_aload_n dX11_readAll_14 rfl rfl ?_
        refine V_getI dX11_readAll_15 fl_X11_128 (by first | assumption | exact ⟨by decide, rfl⟩) ?_
        refine V_icmp_ge_t (tgt := 38) dX11_readAll_18 (by decide) (by rw [g2, hT2.2.1]; exact nI_le (by omega) (by omega)) ?_
        refine V_bipush (v := (-4)) dX11_readAll_38 (by decide) ?_
        refine V_ireturn dX11_readAll_40 rfl rfl rfl (by decide) (by decide) ?_
        exact Kz I2 g1 hB (fun _ => hX2)
  exact key (len + 1) 0 K0 _ (by omega) (by omega) (f1.trans (fun x y a b c => u2n (by omega))) u2e KB_K0 (hX.of (fun x y a b => u2n (by omega))) Kk
end
section
variable {E : En} {I : TI} {J : TJ} {co dr : Nat} {cc a1 a2 : Option Nat} {Post : PT} {t : Nat → Nat} {len : Nat} {K : KT} {D D1 D2 : Di} {kp : Nat} {tl : Nat → Int32} {d : Nat}
theorem MS.fr1 {I' : TI} (h : MS t len K D D1 D2 kp tl I) (hf : Fr1 I I') : MS t len K D D1 D2 kp tl I' :=
  ⟨h.1, h.2.1.of h.1.1.1 h.1.1.2.1 h.1.1.2.2.1 (fun x y a b c => hf x y (by omega) (by omega) (Or.inr (Or.inr c))), h.2.2.1.of (fun y => hf _ _ (by omega) (by omega) (by omega)) (fun y => hf _ _ (by omega) (by omega) (by omega)), h.2.2.2.1.fr hf, h.2.2.2.2.of (fun x y a b => hf _ _ (by omega) (by omega) (by omega)) (hf _ _ (by omega) (by omega) (by omega))⟩
theorem rop_fault (hd : 6 ≤ d) (h : MS t len K D D1 D2 kp tl I) : Cal E d M_X11_fault [.ref 70] NC I J (RR co dr cc a1 a2) (MK t len K D D1 D2 kp tl (some (.int (flt (rdF t len (len + 1) K0 0).1))) I J (RR co dr cc a1 a2)) := by
  refine Cal_of kn_X11_fault rfl (Nat.le_of_ble_eq_true rfl) ?_
  refine V_aload_n dX11_fault_0 rfl rfl ?_
  refine V_cV0i (M' := M_X11_readAll) (d' := 5) dX11_fault_1 (Or.inl ml_X11_176) kb_X11_readAll (by first | assumption | exact ⟨by decide, rfl⟩) (by first | decide | omega) (by simp [Value.category]) ⟨by decide, by decide⟩ ?_
  refine mr_readAll h.2.2.2.1 (fun I1 g1 g2 g3 => ⟨_, rfl, ?_⟩)
  refine V_ireturn dX11_fault_4 rfl rfl rfl (by decide) (by decide) ?_
  exact ⟨rfl, rfl, rfl, h.fr1 g1, fun x y a => g1 x y (by omega) (by omega) (by omega), fun _ _ _ => rfl⟩
end
