/-! The constructors: printed by gen_init.py -/
def Z (n : Nat) (I : TI) (J : TJ) (R : TR) : Prop := (∀ x, n ≤ x → ∀ s, I x s = 0) ∧ (∀ x, n ≤ x → ∀ s, J x s = 0) ∧ ∀ x, n ≤ x → ∀ s, R x s = none
theorem Z.succ {n : Nat} {I : TI} {J : TJ} {R : TR} (h : Z n I J R) : Z (n + 1) I J R := ⟨fun x hx => h.1 x (by omega), fun x hx => h.2.1 x (by omega), fun x hx => h.2.2 x (by omega)⟩
theorem Z.put {n k s : Nat} {v : Option Nat} {I : TI} {J : TJ} {R : TR} (h : Z n I J R) (hk : k < n) : Z n I J (up2 R k s v) := ⟨h.1, h.2.1, fun x hx q => by rw [u2n (by omega)]; exact h.2.2 x hx q⟩
theorem fk_len (ci : Nat) : (fk ci).length ≤ 42 := by
  by_cases h : ci < 12
  · exact (by decide : ∀ ci, ci < 12 → (fk ci).length ≤ 42) ci h
  · unfold fk
    rw [List.getD_eq_getElem?_getD, List.getElem?_eq_none (by show fkL.length ≤ ci; have : fkL.length = 12 := (by decide); omega)]
    exact Nat.zero_le _
section
variable {E : En} {d : Nat} {M : Mt} {Post : PT} {pc : Nat} {ls : List (Option Value)} {st : List Value} {n cs sl : Nat} {I : TI} {J : TJ} {R R' : TR}
theorem cel_cong {k : Nat} (h : ∀ s, s < 42 → R k s = R' k s) : cel E I J R k = cel E I J R' k := by
  have e : ∀ ci, fl E I J R k ci = fl E I J R' k ci := by
    intro ci
    unfold fl
    refine List.map_congr_left (fun s hs => ?_)
    have hs2 : s < 42 := Nat.lt_of_lt_of_le (List.mem_range.mp hs) (fk_len ci)
    unfold fvl
    rw [h s hs2]
  unfold cel
  split <;> simp [e]
theorem Hld_cong (h : ∀ k, k < n → ∀ s, s < 42 → R k s = R' k s) {H : Heap} (hH : Hld E n I J R H) : Hld E n I J R' H := by
  have e : wld E n I J R = wld E n I J R' := List.map_congr_left (fun k hk => by rw [cel_cong (h k (List.mem_range.mp hk))])
  unfold Hld at *
  rw [← e]; exact hH
theorem V_cong (h : ∀ k, k < n → ∀ s, s < 42 → R k s = R' k s) (kk : V E d M Post pc ls st n cs sl I J R') : V E d M Post pc ls st n cs sl I J R := fun p e s m args below meth c X H locs lc hH hS hL => kk p e s m args below meth c X H locs lc (Hld_cong h hH) hS hL
theorem V_cI0 {M' : Mt} {d' idx k : Nat} (hd : decode (mC M) pc = .ok (.invokespecial idx, 3)) (hl : Cond.methodLink (mY M).cls idx (mY M') ∈ lw_tbl ∨ ∃ h, Cond.methodLinkNest (mY M).cls idx (mY M') h ∈ lw_tbl) (hkn : KnC (mY M') (mC M') (mL M') (mR M')) (hin : Cond.instanceMethod (mY M') ∈ lw_tbl) (hnm : (mY M').name = "<init>") (hret : mR M' = none) (hp : nPar (mY M') 0) (hd' : d' + 1 ≤ d) (hr : (st.map fun v => v.category).sum ≤ 8) (hm : cs + mc_ M' ≤ mc_ M ∧ sl + ms_ M' ≤ ms_ M)
    (hC : Cal E d' M' [.ref k] n I J R (fun v n' I' J' R' => v = none ∧ V E d M Post (pc + 3) ls st n' (cs + mc_ M') (sl + ms_ M') I' J' R')) : V E d M Post pc ls (.ref k :: st) n cs sl I J R :=
  V_callI (as := []) hd hl hkn hin hnm hret hp hd' hr hm (hC.imp (fun v n' I' J' R' h => by obtain ⟨rfl, h⟩ := h; exact h))
theorem in_X6_init_2 {d : Nat} (hd : 1 ≤ d) (hZ : Z 3 I J R) (Kk : Z 4 I J (up2 R 2 0 (some 3)) → Post none 4 I J (up2 R 2 0 (some 3))) : Cal E d M_X6_init [.ref 2] 3 I J R Post := by
  refine Cal_of kn_X6_init rfl (Nat.le_of_ble_eq_true rfl) ?_
  refine V_aload_n dX6_init_0 rfl rfl ?_
  refine V_objInit dX6_init_1 oi_X6_3 (by omega) (by decide) ?_
  refine V_aload_n dX6_init_4 rfl rfl ?_
  refine V_iconst (v := 4) dX6_init_5 (by decide) ?_
  refine V_newarray (kd := 0) (len := 4) dX6_init_6 (Or.inl ⟨rfl, rfl⟩) rfl (by decide) (by decide) (Nat.le_of_ble_eq_true rfl) (Nat.le_of_ble_eq_true rfl) (Nat.le_of_ble_eq_true rfl) (fun s => hZ.1 _ (Nat.le_refl _) s) (fun s => hZ.2.1 _ (Nat.le_refl _) s) ?_
  have hZ := hZ.succ
  refine V_putF dX6_init_8 fl_X6_9 (by first | exact Or.inr ⟨rfl, rfl⟩ | exact Or.inl rfl) (by first | exact Or.inl ⟨_, rfl⟩ | exact Or.inr ⟨_, rfl⟩) ⟨Nat.le_of_ble_eq_true rfl, rfl⟩ ?_
  have hZ := hZ.put (k := 2) (s := 0) (v := some 3) (Nat.le_of_ble_eq_true rfl)
  refine V_return dX6_init_11 rfl rfl (Nat.le_of_ble_eq_true rfl) (Nat.le_of_ble_eq_true rfl) ?_
  exact Kk hZ
theorem in_X5_init_12 {d : Nat} (hd : 1 ≤ d) (hZ : Z 13 I J R) (Kk : Z 15 I J (up2 (up2 R 12 2 (some 13)) 12 3 (some 14)) → Post none 15 I J (up2 (up2 R 12 2 (some 13)) 12 3 (some 14))) : Cal E d M_X5_init [.ref 12] 13 I J R Post := by
  refine Cal_of kn_X5_init rfl (Nat.le_of_ble_eq_true rfl) ?_
  refine V_aload_n dX5_init_0 rfl rfl ?_
  refine V_objInit dX5_init_1 oi_X5_3 (by omega) (by decide) ?_
  refine V_aload_n dX5_init_4 rfl rfl ?_
  refine V_bipush (v := 10) dX5_init_5 (by decide) ?_
  refine V_newarray (kd := 0) (len := 10) dX5_init_7 (Or.inl ⟨rfl, rfl⟩) rfl (by decide) (by decide) (Nat.le_of_ble_eq_true rfl) (Nat.le_of_ble_eq_true rfl) (Nat.le_of_ble_eq_true rfl) (fun s => hZ.1 _ (Nat.le_refl _) s) (fun s => hZ.2.1 _ (Nat.le_refl _) s) ?_
  have hZ := hZ.succ
  refine V_putF dX5_init_9 fl_X5_9 (by first | exact Or.inr ⟨rfl, rfl⟩ | exact Or.inl rfl) (by first | exact Or.inl ⟨_, rfl⟩ | exact Or.inr ⟨_, rfl⟩) ⟨Nat.le_of_ble_eq_true rfl, rfl⟩ ?_
  have hZ := hZ.put (k := 12) (s := 2) (v := some 13) (Nat.le_of_ble_eq_true rfl)
  refine V_aload_n dX5_init_12 rfl rfl ?_
  refine V_bipush (v := 10) dX5_init_13 (by decide) ?_
  refine V_newarray (kd := 0) (len := 10) dX5_init_15 (Or.inl ⟨rfl, rfl⟩) rfl (by decide) (by decide) (Nat.le_of_ble_eq_true rfl) (Nat.le_of_ble_eq_true rfl) (Nat.le_of_ble_eq_true rfl) (fun s => hZ.1 _ (Nat.le_refl _) s) (fun s => hZ.2.1 _ (Nat.le_refl _) s) ?_
  have hZ := hZ.succ
  refine V_putF dX5_init_17 fl_X5_15 (by first | exact Or.inr ⟨rfl, rfl⟩ | exact Or.inl rfl) (by first | exact Or.inl ⟨_, rfl⟩ | exact Or.inr ⟨_, rfl⟩) ⟨Nat.le_of_ble_eq_true rfl, rfl⟩ ?_
  have hZ := hZ.put (k := 12) (s := 3) (v := some 14) (Nat.le_of_ble_eq_true rfl)
  refine V_return dX5_init_20 rfl rfl (Nat.le_of_ble_eq_true rfl) (Nat.le_of_ble_eq_true rfl) ?_
  exact Kk hZ
theorem in_X3_init_4 {d : Nat} (hd : 2 ≤ d) (hZ : Z 5 I J R) (Kk : Z 18 I J (up2 (up2 (up2 (up2 (up2 (up2 (up2 (up2 (up2 (up2 (up2 (up2 (up2 R 4 3 (some 5)) 4 4 (some 6)) 4 5 (some 7)) 4 6 (some 8)) 4 7 (some 9)) 4 8 (some 10)) 4 9 (some 11)) 12 2 (some 13)) 12 3 (some 14)) 4 11 (some 12)) 4 12 (some 15)) 4 17 (some 16)) 4 18 (some 17)) → Post none 18 I J (up2 (up2 (up2 (up2 (up2 (up2 (up2 (up2 (up2 (up2 (up2 (up2 (up2 R 4 3 (some 5)) 4 4 (some 6)) 4 5 (some 7)) 4 6 (some 8)) 4 7 (some 9)) 4 8 (some 10)) 4 9 (some 11)) 12 2 (some 13)) 12 3 (some 14)) 4 11 (some 12)) 4 12 (some 15)) 4 17 (some 16)) 4 18 (some 17))) : Cal E d M_X3_init [.ref 4] 5 I J R Post := by
  refine Cal_of kn_X3_init rfl (Nat.le_of_ble_eq_true rfl) ?_
  refine V_aload_n dX3_init_0 rfl rfl ?_
  refine V_objInit dX3_init_1 oi_X3_3 (by omega) (by decide) ?_
  refine V_aload_n dX3_init_4 rfl rfl ?_
  refine V_bipush (v := 10) dX3_init_5 (by decide) ?_
  refine V_newarray (kd := 0) (len := 10) dX3_init_7 (Or.inl ⟨rfl, rfl⟩) rfl (by decide) (by decide) (Nat.le_of_ble_eq_true rfl) (Nat.le_of_ble_eq_true rfl) (Nat.le_of_ble_eq_true rfl) (fun s => hZ.1 _ (Nat.le_refl _) s) (fun s => hZ.2.1 _ (Nat.le_refl _) s) ?_
  have hZ := hZ.succ
  refine V_putF dX3_init_9 fl_X3_9 (by first | exact Or.inr ⟨rfl, rfl⟩ | exact Or.inl rfl) (by first | exact Or.inl ⟨_, rfl⟩ | exact Or.inr ⟨_, rfl⟩) ⟨Nat.le_of_ble_eq_true rfl, rfl⟩ ?_
  have hZ := hZ.put (k := 4) (s := 3) (v := some 5) (Nat.le_of_ble_eq_true rfl)
  refine V_aload_n dX3_init_12 rfl rfl ?_
  refine V_bipush (v := 10) dX3_init_13 (by decide) ?_
  refine V_newarray (kd := 0) (len := 10) dX3_init_15 (Or.inl ⟨rfl, rfl⟩) rfl (by decide) (by decide) (Nat.le_of_ble_eq_true rfl) (Nat.le_of_ble_eq_true rfl) (Nat.le_of_ble_eq_true rfl) (fun s => hZ.1 _ (Nat.le_refl _) s) (fun s => hZ.2.1 _ (Nat.le_refl _) s) ?_
  have hZ := hZ.succ
  refine V_putF dX3_init_17 fl_X3_15 (by first | exact Or.inr ⟨rfl, rfl⟩ | exact Or.inl rfl) (by first | exact Or.inl ⟨_, rfl⟩ | exact Or.inr ⟨_, rfl⟩) ⟨Nat.le_of_ble_eq_true rfl, rfl⟩ ?_
  have hZ := hZ.put (k := 4) (s := 4) (v := some 6) (Nat.le_of_ble_eq_true rfl)
  refine V_aload_n dX3_init_20 rfl rfl ?_
  refine V_bipush (v := 10) dX3_init_21 (by decide) ?_
  refine V_newarray (kd := 0) (len := 10) dX3_init_23 (Or.inl ⟨rfl, rfl⟩) rfl (by decide) (by decide) (Nat.le_of_ble_eq_true rfl) (Nat.le_of_ble_eq_true rfl) (Nat.le_of_ble_eq_true rfl) (fun s => hZ.1 _ (Nat.le_refl _) s) (fun s => hZ.2.1 _ (Nat.le_refl _) s) ?_
  have hZ := hZ.succ
  refine V_putF dX3_init_25 fl_X3_18 (by first | exact Or.inr ⟨rfl, rfl⟩ | exact Or.inl rfl) (by first | exact Or.inl ⟨_, rfl⟩ | exact Or.inr ⟨_, rfl⟩) ⟨Nat.le_of_ble_eq_true rfl, rfl⟩ ?_
  have hZ := hZ.put (k := 4) (s := 5) (v := some 7) (Nat.le_of_ble_eq_true rfl)
  refine V_aload_n dX3_init_28 rfl rfl ?_
  refine V_bipush (v := 8) dX3_init_29 (by decide) ?_
  refine V_newarray (kd := 0) (len := 8) dX3_init_31 (Or.inl ⟨rfl, rfl⟩) rfl (by decide) (by decide) (Nat.le_of_ble_eq_true rfl) (Nat.le_of_ble_eq_true rfl) (Nat.le_of_ble_eq_true rfl) (fun s => hZ.1 _ (Nat.le_refl _) s) (fun s => hZ.2.1 _ (Nat.le_refl _) s) ?_
  have hZ := hZ.succ
  refine V_putF dX3_init_33 fl_X3_21 (by first | exact Or.inr ⟨rfl, rfl⟩ | exact Or.inl rfl) (by first | exact Or.inl ⟨_, rfl⟩ | exact Or.inr ⟨_, rfl⟩) ⟨Nat.le_of_ble_eq_true rfl, rfl⟩ ?_
  have hZ := hZ.put (k := 4) (s := 6) (v := some 8) (Nat.le_of_ble_eq_true rfl)
  refine V_aload_n dX3_init_36 rfl rfl ?_
  refine V_bipush (v := 8) dX3_init_37 (by decide) ?_
  refine V_newarray (kd := 0) (len := 8) dX3_init_39 (Or.inl ⟨rfl, rfl⟩) rfl (by decide) (by decide) (Nat.le_of_ble_eq_true rfl) (Nat.le_of_ble_eq_true rfl) (Nat.le_of_ble_eq_true rfl) (fun s => hZ.1 _ (Nat.le_refl _) s) (fun s => hZ.2.1 _ (Nat.le_refl _) s) ?_
  have hZ := hZ.succ
  refine V_putF dX3_init_41 fl_X3_24 (by first | exact Or.inr ⟨rfl, rfl⟩ | exact Or.inl rfl) (by first | exact Or.inl ⟨_, rfl⟩ | exact Or.inr ⟨_, rfl⟩) ⟨Nat.le_of_ble_eq_true rfl, rfl⟩ ?_
  have hZ := hZ.put (k := 4) (s := 7) (v := some 9) (Nat.le_of_ble_eq_true rfl)
  refine V_aload_n dX3_init_44 rfl rfl ?_
  refine V_bipush (v := 8) dX3_init_45 (by decide) ?_
  refine V_newarray (kd := 0) (len := 8) dX3_init_47 (Or.inl ⟨rfl, rfl⟩) rfl (by decide) (by decide) (Nat.le_of_ble_eq_true rfl) (Nat.le_of_ble_eq_true rfl) (Nat.le_of_ble_eq_true rfl) (fun s => hZ.1 _ (Nat.le_refl _) s) (fun s => hZ.2.1 _ (Nat.le_refl _) s) ?_
  have hZ := hZ.succ
  refine V_putF dX3_init_49 fl_X3_27 (by first | exact Or.inr ⟨rfl, rfl⟩ | exact Or.inl rfl) (by first | exact Or.inl ⟨_, rfl⟩ | exact Or.inr ⟨_, rfl⟩) ⟨Nat.le_of_ble_eq_true rfl, rfl⟩ ?_
  have hZ := hZ.put (k := 4) (s := 8) (v := some 10) (Nat.le_of_ble_eq_true rfl)
  refine V_aload_n dX3_init_52 rfl rfl ?_
  refine V_bipush (v := 8) dX3_init_53 (by decide) ?_
  refine V_newarray (kd := 0) (len := 8) dX3_init_55 (Or.inl ⟨rfl, rfl⟩) rfl (by decide) (by decide) (Nat.le_of_ble_eq_true rfl) (Nat.le_of_ble_eq_true rfl) (Nat.le_of_ble_eq_true rfl) (fun s => hZ.1 _ (Nat.le_refl _) s) (fun s => hZ.2.1 _ (Nat.le_refl _) s) ?_
  have hZ := hZ.succ
  refine V_putF dX3_init_57 fl_X3_30 (by first | exact Or.inr ⟨rfl, rfl⟩ | exact Or.inl rfl) (by first | exact Or.inl ⟨_, rfl⟩ | exact Or.inr ⟨_, rfl⟩) ⟨Nat.le_of_ble_eq_true rfl, rfl⟩ ?_
  have hZ := hZ.put (k := 4) (s := 9) (v := some 11) (Nat.le_of_ble_eq_true rfl)
  refine V_aload_n dX3_init_60 rfl rfl ?_
  refine V_new (ci := 5) (N := 4) dX3_init_61 nw_X3_33 rfl rfl (Nat.le_of_ble_eq_true rfl) (Nat.le_of_ble_eq_true rfl) (fun s => hZ.1 _ (Nat.le_refl _) s) (fun s => hZ.2.1 _ (Nat.le_refl _) s) (fun s => hZ.2.2 _ (Nat.le_refl _) s) ?_
  have hZ := hZ.succ
  refine V_dup dX3_init_64 rfl ?_
  refine V_cI0 (M' := M_X5_init) (d' := 1) dX3_init_65 (Or.inr ⟨_, ml_X3_35⟩) kn_X5_init ki_X5_init rfl rfl (by unfold nPar; decide +kernel) (by omega) (by decide) ⟨Nat.le_of_ble_eq_true rfl, Nat.le_of_ble_eq_true rfl⟩ ?_
  refine in_X5_init_12 (by omega) hZ (fun hZ => ⟨rfl, ?_⟩)
  refine V_putF dX3_init_68 fl_X3_36 (by first | exact Or.inr ⟨rfl, rfl⟩ | exact Or.inl rfl) (by first | exact Or.inl ⟨_, rfl⟩ | exact Or.inr ⟨_, rfl⟩) ⟨Nat.le_of_ble_eq_true rfl, rfl⟩ ?_
  have hZ := hZ.put (k := 4) (s := 11) (v := some 12) (Nat.le_of_ble_eq_true rfl)
  refine V_aload_n dX3_init_71 rfl rfl ?_
  refine V_bipush (v := 100) dX3_init_72 (by decide) ?_
  refine V_newarray (kd := 0) (len := 100) dX3_init_74 (Or.inl ⟨rfl, rfl⟩) rfl (by decide) (by decide) (Nat.le_of_ble_eq_true rfl) (Nat.le_of_ble_eq_true rfl) (Nat.le_of_ble_eq_true rfl) (fun s => hZ.1 _ (Nat.le_refl _) s) (fun s => hZ.2.1 _ (Nat.le_refl _) s) ?_
  have hZ := hZ.succ
  refine V_putF dX3_init_76 fl_X3_40 (by first | exact Or.inr ⟨rfl, rfl⟩ | exact Or.inl rfl) (by first | exact Or.inl ⟨_, rfl⟩ | exact Or.inr ⟨_, rfl⟩) ⟨Nat.le_of_ble_eq_true rfl, rfl⟩ ?_
  have hZ := hZ.put (k := 4) (s := 12) (v := some 15) (Nat.le_of_ble_eq_true rfl)
  refine V_aload_n dX3_init_79 rfl rfl ?_
  refine V_bipush (v := 8) dX3_init_80 (by decide) ?_
  refine V_newarray (kd := 0) (len := 8) dX3_init_82 (Or.inl ⟨rfl, rfl⟩) rfl (by decide) (by decide) (Nat.le_of_ble_eq_true rfl) (Nat.le_of_ble_eq_true rfl) (Nat.le_of_ble_eq_true rfl) (fun s => hZ.1 _ (Nat.le_refl _) s) (fun s => hZ.2.1 _ (Nat.le_refl _) s) ?_
  have hZ := hZ.succ
  refine V_putF dX3_init_84 fl_X3_43 (by first | exact Or.inr ⟨rfl, rfl⟩ | exact Or.inl rfl) (by first | exact Or.inl ⟨_, rfl⟩ | exact Or.inr ⟨_, rfl⟩) ⟨Nat.le_of_ble_eq_true rfl, rfl⟩ ?_
  have hZ := hZ.put (k := 4) (s := 17) (v := some 16) (Nat.le_of_ble_eq_true rfl)
  refine V_aload_n dX3_init_87 rfl rfl ?_
  refine V_bipush (v := 8) dX3_init_88 (by decide) ?_
  refine V_newarray (kd := 0) (len := 8) dX3_init_90 (Or.inl ⟨rfl, rfl⟩) rfl (by decide) (by decide) (Nat.le_of_ble_eq_true rfl) (Nat.le_of_ble_eq_true rfl) (Nat.le_of_ble_eq_true rfl) (fun s => hZ.1 _ (Nat.le_refl _) s) (fun s => hZ.2.1 _ (Nat.le_refl _) s) ?_
  have hZ := hZ.succ
  refine V_putF dX3_init_92 fl_X3_46 (by first | exact Or.inr ⟨rfl, rfl⟩ | exact Or.inl rfl) (by first | exact Or.inl ⟨_, rfl⟩ | exact Or.inr ⟨_, rfl⟩) ⟨Nat.le_of_ble_eq_true rfl, rfl⟩ ?_
  have hZ := hZ.put (k := 4) (s := 18) (v := some 17) (Nat.le_of_ble_eq_true rfl)
  refine V_return dX3_init_95 rfl rfl (Nat.le_of_ble_eq_true rfl) (Nat.le_of_ble_eq_true rfl) ?_
  exact Kk hZ
theorem in_X5_init_26 {d : Nat} (hd : 1 ≤ d) (hZ : Z 27 I J R) (Kk : Z 29 I J (up2 (up2 R 26 2 (some 27)) 26 3 (some 28)) → Post none 29 I J (up2 (up2 R 26 2 (some 27)) 26 3 (some 28))) : Cal E d M_X5_init [.ref 26] 27 I J R Post := by
  refine Cal_of kn_X5_init rfl (Nat.le_of_ble_eq_true rfl) ?_
  refine V_aload_n dX5_init_0 rfl rfl ?_
  refine V_objInit dX5_init_1 oi_X5_3 (by omega) (by decide) ?_
  refine V_aload_n dX5_init_4 rfl rfl ?_
  refine V_bipush (v := 10) dX5_init_5 (by decide) ?_
  refine V_newarray (kd := 0) (len := 10) dX5_init_7 (Or.inl ⟨rfl, rfl⟩) rfl (by decide) (by decide) (Nat.le_of_ble_eq_true rfl) (Nat.le_of_ble_eq_true rfl) (Nat.le_of_ble_eq_true rfl) (fun s => hZ.1 _ (Nat.le_refl _) s) (fun s => hZ.2.1 _ (Nat.le_refl _) s) ?_
  have hZ := hZ.succ
  refine V_putF dX5_init_9 fl_X5_9 (by first | exact Or.inr ⟨rfl, rfl⟩ | exact Or.inl rfl) (by first | exact Or.inl ⟨_, rfl⟩ | exact Or.inr ⟨_, rfl⟩) ⟨Nat.le_of_ble_eq_true rfl, rfl⟩ ?_
  have hZ := hZ.put (k := 26) (s := 2) (v := some 27) (Nat.le_of_ble_eq_true rfl)
  refine V_aload_n dX5_init_12 rfl rfl ?_
  refine V_bipush (v := 10) dX5_init_13 (by decide) ?_
  refine V_newarray (kd := 0) (len := 10) dX5_init_15 (Or.inl ⟨rfl, rfl⟩) rfl (by decide) (by decide) (Nat.le_of_ble_eq_true rfl) (Nat.le_of_ble_eq_true rfl) (Nat.le_of_ble_eq_true rfl) (fun s => hZ.1 _ (Nat.le_refl _) s) (fun s => hZ.2.1 _ (Nat.le_refl _) s) ?_
  have hZ := hZ.succ
  refine V_putF dX5_init_17 fl_X5_15 (by first | exact Or.inr ⟨rfl, rfl⟩ | exact Or.inl rfl) (by first | exact Or.inl ⟨_, rfl⟩ | exact Or.inr ⟨_, rfl⟩) ⟨Nat.le_of_ble_eq_true rfl, rfl⟩ ?_
  have hZ := hZ.put (k := 26) (s := 3) (v := some 28) (Nat.le_of_ble_eq_true rfl)
  refine V_return dX5_init_20 rfl rfl (Nat.le_of_ble_eq_true rfl) (Nat.le_of_ble_eq_true rfl) ?_
  exact Kk hZ
theorem in_X3_init_18 {d : Nat} (hd : 2 ≤ d) (hZ : Z 19 I J R) (Kk : Z 32 I J (up2 (up2 (up2 (up2 (up2 (up2 (up2 (up2 (up2 (up2 (up2 (up2 (up2 R 18 3 (some 19)) 18 4 (some 20)) 18 5 (some 21)) 18 6 (some 22)) 18 7 (some 23)) 18 8 (some 24)) 18 9 (some 25)) 26 2 (some 27)) 26 3 (some 28)) 18 11 (some 26)) 18 12 (some 29)) 18 17 (some 30)) 18 18 (some 31)) → Post none 32 I J (up2 (up2 (up2 (up2 (up2 (up2 (up2 (up2 (up2 (up2 (up2 (up2 (up2 R 18 3 (some 19)) 18 4 (some 20)) 18 5 (some 21)) 18 6 (some 22)) 18 7 (some 23)) 18 8 (some 24)) 18 9 (some 25)) 26 2 (some 27)) 26 3 (some 28)) 18 11 (some 26)) 18 12 (some 29)) 18 17 (some 30)) 18 18 (some 31))) : Cal E d M_X3_init [.ref 18] 19 I J R Post := by
  refine Cal_of kn_X3_init rfl (Nat.le_of_ble_eq_true rfl) ?_
  refine V_aload_n dX3_init_0 rfl rfl ?_
  refine V_objInit dX3_init_1 oi_X3_3 (by omega) (by decide) ?_
  refine V_aload_n dX3_init_4 rfl rfl ?_
  refine V_bipush (v := 10) dX3_init_5 (by decide) ?_
  refine V_newarray (kd := 0) (len := 10) dX3_init_7 (Or.inl ⟨rfl, rfl⟩) rfl (by decide) (by decide) (Nat.le_of_ble_eq_true rfl) (Nat.le_of_ble_eq_true rfl) (Nat.le_of_ble_eq_true rfl) (fun s => hZ.1 _ (Nat.le_refl _) s) (fun s => hZ.2.1 _ (Nat.le_refl _) s) ?_
  have hZ := hZ.succ
  refine V_putF dX3_init_9 fl_X3_9 (by first | exact Or.inr ⟨rfl, rfl⟩ | exact Or.inl rfl) (by first | exact Or.inl ⟨_, rfl⟩ | exact Or.inr ⟨_, rfl⟩) ⟨Nat.le_of_ble_eq_true rfl, rfl⟩ ?_
  have hZ := hZ.put (k := 18) (s := 3) (v := some 19) (Nat.le_of_ble_eq_true rfl)
  refine V_aload_n dX3_init_12 rfl rfl ?_
  refine V_bipush (v := 10) dX3_init_13 (by decide) ?_
  refine V_newarray (kd := 0) (len := 10) dX3_init_15 (Or.inl ⟨rfl, rfl⟩) rfl (by decide) (by decide) (Nat.le_of_ble_eq_true rfl) (Nat.le_of_ble_eq_true rfl) (Nat.le_of_ble_eq_true rfl) (fun s => hZ.1 _ (Nat.le_refl _) s) (fun s => hZ.2.1 _ (Nat.le_refl _) s) ?_
  have hZ := hZ.succ
  refine V_putF dX3_init_17 fl_X3_15 (by first | exact Or.inr ⟨rfl, rfl⟩ | exact Or.inl rfl) (by first | exact Or.inl ⟨_, rfl⟩ | exact Or.inr ⟨_, rfl⟩) ⟨Nat.le_of_ble_eq_true rfl, rfl⟩ ?_
  have hZ := hZ.put (k := 18) (s := 4) (v := some 20) (Nat.le_of_ble_eq_true rfl)
  refine V_aload_n dX3_init_20 rfl rfl ?_
  refine V_bipush (v := 10) dX3_init_21 (by decide) ?_
  refine V_newarray (kd := 0) (len := 10) dX3_init_23 (Or.inl ⟨rfl, rfl⟩) rfl (by decide) (by decide) (Nat.le_of_ble_eq_true rfl) (Nat.le_of_ble_eq_true rfl) (Nat.le_of_ble_eq_true rfl) (fun s => hZ.1 _ (Nat.le_refl _) s) (fun s => hZ.2.1 _ (Nat.le_refl _) s) ?_
  have hZ := hZ.succ
  refine V_putF dX3_init_25 fl_X3_18 (by first | exact Or.inr ⟨rfl, rfl⟩ | exact Or.inl rfl) (by first | exact Or.inl ⟨_, rfl⟩ | exact Or.inr ⟨_, rfl⟩) ⟨Nat.le_of_ble_eq_true rfl, rfl⟩ ?_
  have hZ := hZ.put (k := 18) (s := 5) (v := some 21) (Nat.le_of_ble_eq_true rfl)
  refine V_aload_n dX3_init_28 rfl rfl ?_
  refine V_bipush (v := 8) dX3_init_29 (by decide) ?_
  refine V_newarray (kd := 0) (len := 8) dX3_init_31 (Or.inl ⟨rfl, rfl⟩) rfl (by decide) (by decide) (Nat.le_of_ble_eq_true rfl) (Nat.le_of_ble_eq_true rfl) (Nat.le_of_ble_eq_true rfl) (fun s => hZ.1 _ (Nat.le_refl _) s) (fun s => hZ.2.1 _ (Nat.le_refl _) s) ?_
  have hZ := hZ.succ
  refine V_putF dX3_init_33 fl_X3_21 (by first | exact Or.inr ⟨rfl, rfl⟩ | exact Or.inl rfl) (by first | exact Or.inl ⟨_, rfl⟩ | exact Or.inr ⟨_, rfl⟩) ⟨Nat.le_of_ble_eq_true rfl, rfl⟩ ?_
  have hZ := hZ.put (k := 18) (s := 6) (v := some 22) (Nat.le_of_ble_eq_true rfl)
  refine V_aload_n dX3_init_36 rfl rfl ?_
  refine V_bipush (v := 8) dX3_init_37 (by decide) ?_
  refine V_newarray (kd := 0) (len := 8) dX3_init_39 (Or.inl ⟨rfl, rfl⟩) rfl (by decide) (by decide) (Nat.le_of_ble_eq_true rfl) (Nat.le_of_ble_eq_true rfl) (Nat.le_of_ble_eq_true rfl) (fun s => hZ.1 _ (Nat.le_refl _) s) (fun s => hZ.2.1 _ (Nat.le_refl _) s) ?_
  have hZ := hZ.succ
  refine V_putF dX3_init_41 fl_X3_24 (by first | exact Or.inr ⟨rfl, rfl⟩ | exact Or.inl rfl) (by first | exact Or.inl ⟨_, rfl⟩ | exact Or.inr ⟨_, rfl⟩) ⟨Nat.le_of_ble_eq_true rfl, rfl⟩ ?_
  have hZ := hZ.put (k := 18) (s := 7) (v := some 23) (Nat.le_of_ble_eq_true rfl)
  refine V_aload_n dX3_init_44 rfl rfl ?_
  refine V_bipush (v := 8) dX3_init_45 (by decide) ?_
  refine V_newarray (kd := 0) (len := 8) dX3_init_47 (Or.inl ⟨rfl, rfl⟩) rfl (by decide) (by decide) (Nat.le_of_ble_eq_true rfl) (Nat.le_of_ble_eq_true rfl) (Nat.le_of_ble_eq_true rfl) (fun s => hZ.1 _ (Nat.le_refl _) s) (fun s => hZ.2.1 _ (Nat.le_refl _) s) ?_
  have hZ := hZ.succ
  refine V_putF dX3_init_49 fl_X3_27 (by first | exact Or.inr ⟨rfl, rfl⟩ | exact Or.inl rfl) (by first | exact Or.inl ⟨_, rfl⟩ | exact Or.inr ⟨_, rfl⟩) ⟨Nat.le_of_ble_eq_true rfl, rfl⟩ ?_
  have hZ := hZ.put (k := 18) (s := 8) (v := some 24) (Nat.le_of_ble_eq_true rfl)
  refine V_aload_n dX3_init_52 rfl rfl ?_
  refine V_bipush (v := 8) dX3_init_53 (by decide) ?_
  refine V_newarray (kd := 0) (len := 8) dX3_init_55 (Or.inl ⟨rfl, rfl⟩) rfl (by decide) (by decide) (Nat.le_of_ble_eq_true rfl) (Nat.le_of_ble_eq_true rfl) (Nat.le_of_ble_eq_true rfl) (fun s => hZ.1 _ (Nat.le_refl _) s) (fun s => hZ.2.1 _ (Nat.le_refl _) s) ?_
  have hZ := hZ.succ
  refine V_putF dX3_init_57 fl_X3_30 (by first | exact Or.inr ⟨rfl, rfl⟩ | exact Or.inl rfl) (by first | exact Or.inl ⟨_, rfl⟩ | exact Or.inr ⟨_, rfl⟩) ⟨Nat.le_of_ble_eq_true rfl, rfl⟩ ?_
  have hZ := hZ.put (k := 18) (s := 9) (v := some 25) (Nat.le_of_ble_eq_true rfl)
  refine V_aload_n dX3_init_60 rfl rfl ?_
  refine V_new (ci := 5) (N := 4) dX3_init_61 nw_X3_33 rfl rfl (Nat.le_of_ble_eq_true rfl) (Nat.le_of_ble_eq_true rfl) (fun s => hZ.1 _ (Nat.le_refl _) s) (fun s => hZ.2.1 _ (Nat.le_refl _) s) (fun s => hZ.2.2 _ (Nat.le_refl _) s) ?_
  have hZ := hZ.succ
  refine V_dup dX3_init_64 rfl ?_
  refine V_cI0 (M' := M_X5_init) (d' := 1) dX3_init_65 (Or.inr ⟨_, ml_X3_35⟩) kn_X5_init ki_X5_init rfl rfl (by unfold nPar; decide +kernel) (by omega) (by decide) ⟨Nat.le_of_ble_eq_true rfl, Nat.le_of_ble_eq_true rfl⟩ ?_
  refine in_X5_init_26 (by omega) hZ (fun hZ => ⟨rfl, ?_⟩)
  refine V_putF dX3_init_68 fl_X3_36 (by first | exact Or.inr ⟨rfl, rfl⟩ | exact Or.inl rfl) (by first | exact Or.inl ⟨_, rfl⟩ | exact Or.inr ⟨_, rfl⟩) ⟨Nat.le_of_ble_eq_true rfl, rfl⟩ ?_
  have hZ := hZ.put (k := 18) (s := 11) (v := some 26) (Nat.le_of_ble_eq_true rfl)
  refine V_aload_n dX3_init_71 rfl rfl ?_
  refine V_bipush (v := 100) dX3_init_72 (by decide) ?_
  refine V_newarray (kd := 0) (len := 100) dX3_init_74 (Or.inl ⟨rfl, rfl⟩) rfl (by decide) (by decide) (Nat.le_of_ble_eq_true rfl) (Nat.le_of_ble_eq_true rfl) (Nat.le_of_ble_eq_true rfl) (fun s => hZ.1 _ (Nat.le_refl _) s) (fun s => hZ.2.1 _ (Nat.le_refl _) s) ?_
  have hZ := hZ.succ
  refine V_putF dX3_init_76 fl_X3_40 (by first | exact Or.inr ⟨rfl, rfl⟩ | exact Or.inl rfl) (by first | exact Or.inl ⟨_, rfl⟩ | exact Or.inr ⟨_, rfl⟩) ⟨Nat.le_of_ble_eq_true rfl, rfl⟩ ?_
  have hZ := hZ.put (k := 18) (s := 12) (v := some 29) (Nat.le_of_ble_eq_true rfl)
  refine V_aload_n dX3_init_79 rfl rfl ?_
  refine V_bipush (v := 8) dX3_init_80 (by decide) ?_
  refine V_newarray (kd := 0) (len := 8) dX3_init_82 (Or.inl ⟨rfl, rfl⟩) rfl (by decide) (by decide) (Nat.le_of_ble_eq_true rfl) (Nat.le_of_ble_eq_true rfl) (Nat.le_of_ble_eq_true rfl) (fun s => hZ.1 _ (Nat.le_refl _) s) (fun s => hZ.2.1 _ (Nat.le_refl _) s) ?_
  have hZ := hZ.succ
  refine V_putF dX3_init_84 fl_X3_43 (by first | exact Or.inr ⟨rfl, rfl⟩ | exact Or.inl rfl) (by first | exact Or.inl ⟨_, rfl⟩ | exact Or.inr ⟨_, rfl⟩) ⟨Nat.le_of_ble_eq_true rfl, rfl⟩ ?_
  have hZ := hZ.put (k := 18) (s := 17) (v := some 30) (Nat.le_of_ble_eq_true rfl)
  refine V_aload_n dX3_init_87 rfl rfl ?_
  refine V_bipush (v := 8) dX3_init_88 (by decide) ?_
  refine V_newarray (kd := 0) (len := 8) dX3_init_90 (Or.inl ⟨rfl, rfl⟩) rfl (by decide) (by decide) (Nat.le_of_ble_eq_true rfl) (Nat.le_of_ble_eq_true rfl) (Nat.le_of_ble_eq_true rfl) (fun s => hZ.1 _ (Nat.le_refl _) s) (fun s => hZ.2.1 _ (Nat.le_refl _) s) ?_
  have hZ := hZ.succ
  refine V_putF dX3_init_92 fl_X3_46 (by first | exact Or.inr ⟨rfl, rfl⟩ | exact Or.inl rfl) (by first | exact Or.inl ⟨_, rfl⟩ | exact Or.inr ⟨_, rfl⟩) ⟨Nat.le_of_ble_eq_true rfl, rfl⟩ ?_
  have hZ := hZ.put (k := 18) (s := 18) (v := some 31) (Nat.le_of_ble_eq_true rfl)
  refine V_return dX3_init_95 rfl rfl (Nat.le_of_ble_eq_true rfl) (Nat.le_of_ble_eq_true rfl) ?_
  exact Kk hZ
theorem in_X4_init_32 {d : Nat} (hd : 1 ≤ d) (hZ : Z 33 I J R) (Kk : Z 35 I J (up2 (up2 R 32 1 (some 33)) 32 2 (some 34)) → Post none 35 I J (up2 (up2 R 32 1 (some 33)) 32 2 (some 34))) : Cal E d M_X4_init [.ref 32] 33 I J R Post := by
  refine Cal_of kn_X4_init rfl (Nat.le_of_ble_eq_true rfl) ?_
  refine V_aload_n dX4_init_0 rfl rfl ?_
  refine V_objInit dX4_init_1 oi_X4_3 (by omega) (by decide) ?_
  refine V_aload_n dX4_init_4 rfl rfl ?_
  refine V_bipush (v := 10) dX4_init_5 (by decide) ?_
  refine V_newarray (kd := 0) (len := 10) dX4_init_7 (Or.inl ⟨rfl, rfl⟩) rfl (by decide) (by decide) (Nat.le_of_ble_eq_true rfl) (Nat.le_of_ble_eq_true rfl) (Nat.le_of_ble_eq_true rfl) (fun s => hZ.1 _ (Nat.le_refl _) s) (fun s => hZ.2.1 _ (Nat.le_refl _) s) ?_
  have hZ := hZ.succ
  refine V_putF dX4_init_9 fl_X4_9 (by first | exact Or.inr ⟨rfl, rfl⟩ | exact Or.inl rfl) (by first | exact Or.inl ⟨_, rfl⟩ | exact Or.inr ⟨_, rfl⟩) ⟨Nat.le_of_ble_eq_true rfl, rfl⟩ ?_
  have hZ := hZ.put (k := 32) (s := 1) (v := some 33) (Nat.le_of_ble_eq_true rfl)
  refine V_aload_n dX4_init_12 rfl rfl ?_
  refine V_bipush (v := 80) dX4_init_13 (by decide) ?_
  refine V_newarray (kd := 0) (len := 80) dX4_init_15 (Or.inl ⟨rfl, rfl⟩) rfl (by decide) (by decide) (Nat.le_of_ble_eq_true rfl) (Nat.le_of_ble_eq_true rfl) (Nat.le_of_ble_eq_true rfl) (fun s => hZ.1 _ (Nat.le_refl _) s) (fun s => hZ.2.1 _ (Nat.le_refl _) s) ?_
  have hZ := hZ.succ
  refine V_putF dX4_init_17 fl_X4_15 (by first | exact Or.inr ⟨rfl, rfl⟩ | exact Or.inl rfl) (by first | exact Or.inl ⟨_, rfl⟩ | exact Or.inr ⟨_, rfl⟩) ⟨Nat.le_of_ble_eq_true rfl, rfl⟩ ?_
  have hZ := hZ.put (k := 32) (s := 2) (v := some 34) (Nat.le_of_ble_eq_true rfl)
  refine V_return dX4_init_20 rfl rfl (Nat.le_of_ble_eq_true rfl) (Nat.le_of_ble_eq_true rfl) ?_
  exact Kk hZ
theorem in_X4_init_35 {d : Nat} (hd : 1 ≤ d) (hZ : Z 36 I J R) (Kk : Z 38 I J (up2 (up2 R 35 1 (some 36)) 35 2 (some 37)) → Post none 38 I J (up2 (up2 R 35 1 (some 36)) 35 2 (some 37))) : Cal E d M_X4_init [.ref 35] 36 I J R Post := by
  refine Cal_of kn_X4_init rfl (Nat.le_of_ble_eq_true rfl) ?_
  refine V_aload_n dX4_init_0 rfl rfl ?_
  refine V_objInit dX4_init_1 oi_X4_3 (by omega) (by decide) ?_
  refine V_aload_n dX4_init_4 rfl rfl ?_
  refine V_bipush (v := 10) dX4_init_5 (by decide) ?_
  refine V_newarray (kd := 0) (len := 10) dX4_init_7 (Or.inl ⟨rfl, rfl⟩) rfl (by decide) (by decide) (Nat.le_of_ble_eq_true rfl) (Nat.le_of_ble_eq_true rfl) (Nat.le_of_ble_eq_true rfl) (fun s => hZ.1 _ (Nat.le_refl _) s) (fun s => hZ.2.1 _ (Nat.le_refl _) s) ?_
  have hZ := hZ.succ
  refine V_putF dX4_init_9 fl_X4_9 (by first | exact Or.inr ⟨rfl, rfl⟩ | exact Or.inl rfl) (by first | exact Or.inl ⟨_, rfl⟩ | exact Or.inr ⟨_, rfl⟩) ⟨Nat.le_of_ble_eq_true rfl, rfl⟩ ?_
  have hZ := hZ.put (k := 35) (s := 1) (v := some 36) (Nat.le_of_ble_eq_true rfl)
  refine V_aload_n dX4_init_12 rfl rfl ?_
  refine V_bipush (v := 80) dX4_init_13 (by decide) ?_
  refine V_newarray (kd := 0) (len := 80) dX4_init_15 (Or.inl ⟨rfl, rfl⟩) rfl (by decide) (by decide) (Nat.le_of_ble_eq_true rfl) (Nat.le_of_ble_eq_true rfl) (Nat.le_of_ble_eq_true rfl) (fun s => hZ.1 _ (Nat.le_refl _) s) (fun s => hZ.2.1 _ (Nat.le_refl _) s) ?_
  have hZ := hZ.succ
  refine V_putF dX4_init_17 fl_X4_15 (by first | exact Or.inr ⟨rfl, rfl⟩ | exact Or.inl rfl) (by first | exact Or.inl ⟨_, rfl⟩ | exact Or.inr ⟨_, rfl⟩) ⟨Nat.le_of_ble_eq_true rfl, rfl⟩ ?_
  have hZ := hZ.put (k := 35) (s := 2) (v := some 37) (Nat.le_of_ble_eq_true rfl)
  refine V_return dX4_init_20 rfl rfl (Nat.le_of_ble_eq_true rfl) (Nat.le_of_ble_eq_true rfl) ?_
  exact Kk hZ
theorem in_X4_init_38 {d : Nat} (hd : 1 ≤ d) (hZ : Z 39 I J R) (Kk : Z 41 I J (up2 (up2 R 38 1 (some 39)) 38 2 (some 40)) → Post none 41 I J (up2 (up2 R 38 1 (some 39)) 38 2 (some 40))) : Cal E d M_X4_init [.ref 38] 39 I J R Post := by
  refine Cal_of kn_X4_init rfl (Nat.le_of_ble_eq_true rfl) ?_
  refine V_aload_n dX4_init_0 rfl rfl ?_
  refine V_objInit dX4_init_1 oi_X4_3 (by omega) (by decide) ?_
  refine V_aload_n dX4_init_4 rfl rfl ?_
  refine V_bipush (v := 10) dX4_init_5 (by decide) ?_
  refine V_newarray (kd := 0) (len := 10) dX4_init_7 (Or.inl ⟨rfl, rfl⟩) rfl (by decide) (by decide) (Nat.le_of_ble_eq_true rfl) (Nat.le_of_ble_eq_true rfl) (Nat.le_of_ble_eq_true rfl) (fun s => hZ.1 _ (Nat.le_refl _) s) (fun s => hZ.2.1 _ (Nat.le_refl _) s) ?_
  have hZ := hZ.succ
  refine V_putF dX4_init_9 fl_X4_9 (by first | exact Or.inr ⟨rfl, rfl⟩ | exact Or.inl rfl) (by first | exact Or.inl ⟨_, rfl⟩ | exact Or.inr ⟨_, rfl⟩) ⟨Nat.le_of_ble_eq_true rfl, rfl⟩ ?_
  have hZ := hZ.put (k := 38) (s := 1) (v := some 39) (Nat.le_of_ble_eq_true rfl)
  refine V_aload_n dX4_init_12 rfl rfl ?_
  refine V_bipush (v := 80) dX4_init_13 (by decide) ?_
  refine V_newarray (kd := 0) (len := 80) dX4_init_15 (Or.inl ⟨rfl, rfl⟩) rfl (by decide) (by decide) (Nat.le_of_ble_eq_true rfl) (Nat.le_of_ble_eq_true rfl) (Nat.le_of_ble_eq_true rfl) (fun s => hZ.1 _ (Nat.le_refl _) s) (fun s => hZ.2.1 _ (Nat.le_refl _) s) ?_
  have hZ := hZ.succ
  refine V_putF dX4_init_17 fl_X4_15 (by first | exact Or.inr ⟨rfl, rfl⟩ | exact Or.inl rfl) (by first | exact Or.inl ⟨_, rfl⟩ | exact Or.inr ⟨_, rfl⟩) ⟨Nat.le_of_ble_eq_true rfl, rfl⟩ ?_
  have hZ := hZ.put (k := 38) (s := 2) (v := some 40) (Nat.le_of_ble_eq_true rfl)
  refine V_return dX4_init_20 rfl rfl (Nat.le_of_ble_eq_true rfl) (Nat.le_of_ble_eq_true rfl) ?_
  exact Kk hZ
theorem in_X2_init_42 {d : Nat} (hd : 1 ≤ d) (hZ : Z 43 I J R) (Kk : Z 48 I J (up2 (up2 (up2 (up2 (up2 R 42 3 (some 43)) 42 4 (some 44)) 42 5 (some 45)) 42 6 (some 46)) 42 7 (some 47)) → Post none 48 I J (up2 (up2 (up2 (up2 (up2 R 42 3 (some 43)) 42 4 (some 44)) 42 5 (some 45)) 42 6 (some 46)) 42 7 (some 47))) : Cal E d M_X2_init [.ref 42] 43 I J R Post := by
  refine Cal_of kn_X2_init rfl (Nat.le_of_ble_eq_true rfl) ?_
  refine V_aload_n dX2_init_0 rfl rfl ?_
  refine V_objInit dX2_init_1 oi_X2_3 (by omega) (by decide) ?_
  refine V_aload_n dX2_init_4 rfl rfl ?_
  refine V_bipush (v := 10) dX2_init_5 (by decide) ?_
  refine V_newarray (kd := 0) (len := 10) dX2_init_7 (Or.inl ⟨rfl, rfl⟩) rfl (by decide) (by decide) (Nat.le_of_ble_eq_true rfl) (Nat.le_of_ble_eq_true rfl) (Nat.le_of_ble_eq_true rfl) (fun s => hZ.1 _ (Nat.le_refl _) s) (fun s => hZ.2.1 _ (Nat.le_refl _) s) ?_
  have hZ := hZ.succ
  refine V_putF dX2_init_9 fl_X2_9 (by first | exact Or.inr ⟨rfl, rfl⟩ | exact Or.inl rfl) (by first | exact Or.inl ⟨_, rfl⟩ | exact Or.inr ⟨_, rfl⟩) ⟨Nat.le_of_ble_eq_true rfl, rfl⟩ ?_
  have hZ := hZ.put (k := 42) (s := 3) (v := some 43) (Nat.le_of_ble_eq_true rfl)
  refine V_aload_n dX2_init_12 rfl rfl ?_
  refine V_bipush (v := 8) dX2_init_13 (by decide) ?_
  refine V_newarray (kd := 0) (len := 8) dX2_init_15 (Or.inl ⟨rfl, rfl⟩) rfl (by decide) (by decide) (Nat.le_of_ble_eq_true rfl) (Nat.le_of_ble_eq_true rfl) (Nat.le_of_ble_eq_true rfl) (fun s => hZ.1 _ (Nat.le_refl _) s) (fun s => hZ.2.1 _ (Nat.le_refl _) s) ?_
  have hZ := hZ.succ
  refine V_putF dX2_init_17 fl_X2_15 (by first | exact Or.inr ⟨rfl, rfl⟩ | exact Or.inl rfl) (by first | exact Or.inl ⟨_, rfl⟩ | exact Or.inr ⟨_, rfl⟩) ⟨Nat.le_of_ble_eq_true rfl, rfl⟩ ?_
  have hZ := hZ.put (k := 42) (s := 4) (v := some 44) (Nat.le_of_ble_eq_true rfl)
  refine V_aload_n dX2_init_20 rfl rfl ?_
  refine V_bipush (v := 80) dX2_init_21 (by decide) ?_
  refine V_newarray (kd := 0) (len := 80) dX2_init_23 (Or.inl ⟨rfl, rfl⟩) rfl (by decide) (by decide) (Nat.le_of_ble_eq_true rfl) (Nat.le_of_ble_eq_true rfl) (Nat.le_of_ble_eq_true rfl) (fun s => hZ.1 _ (Nat.le_refl _) s) (fun s => hZ.2.1 _ (Nat.le_refl _) s) ?_
  have hZ := hZ.succ
  refine V_putF dX2_init_25 fl_X2_18 (by first | exact Or.inr ⟨rfl, rfl⟩ | exact Or.inl rfl) (by first | exact Or.inl ⟨_, rfl⟩ | exact Or.inr ⟨_, rfl⟩) ⟨Nat.le_of_ble_eq_true rfl, rfl⟩ ?_
  have hZ := hZ.put (k := 42) (s := 5) (v := some 45) (Nat.le_of_ble_eq_true rfl)
  refine V_aload_n dX2_init_28 rfl rfl ?_
  refine V_bipush (v := 9) dX2_init_29 (by decide) ?_
  refine V_newarray (kd := 0) (len := 9) dX2_init_31 (Or.inl ⟨rfl, rfl⟩) rfl (by decide) (by decide) (Nat.le_of_ble_eq_true rfl) (Nat.le_of_ble_eq_true rfl) (Nat.le_of_ble_eq_true rfl) (fun s => hZ.1 _ (Nat.le_refl _) s) (fun s => hZ.2.1 _ (Nat.le_refl _) s) ?_
  have hZ := hZ.succ
  refine V_putF dX2_init_33 fl_X2_21 (by first | exact Or.inr ⟨rfl, rfl⟩ | exact Or.inl rfl) (by first | exact Or.inl ⟨_, rfl⟩ | exact Or.inr ⟨_, rfl⟩) ⟨Nat.le_of_ble_eq_true rfl, rfl⟩ ?_
  have hZ := hZ.put (k := 42) (s := 6) (v := some 46) (Nat.le_of_ble_eq_true rfl)
  refine V_aload_n dX2_init_36 rfl rfl ?_
  refine V_bipush (v := 8) dX2_init_37 (by decide) ?_
  refine V_newarray (kd := 0) (len := 8) dX2_init_39 (Or.inl ⟨rfl, rfl⟩) rfl (by decide) (by decide) (Nat.le_of_ble_eq_true rfl) (Nat.le_of_ble_eq_true rfl) (Nat.le_of_ble_eq_true rfl) (fun s => hZ.1 _ (Nat.le_refl _) s) (fun s => hZ.2.1 _ (Nat.le_refl _) s) ?_
  have hZ := hZ.succ
  refine V_putF dX2_init_41 fl_X2_24 (by first | exact Or.inr ⟨rfl, rfl⟩ | exact Or.inl rfl) (by first | exact Or.inl ⟨_, rfl⟩ | exact Or.inr ⟨_, rfl⟩) ⟨Nat.le_of_ble_eq_true rfl, rfl⟩ ?_
  have hZ := hZ.put (k := 42) (s := 7) (v := some 47) (Nat.le_of_ble_eq_true rfl)
  refine V_return dX2_init_44 rfl rfl (Nat.le_of_ble_eq_true rfl) (Nat.le_of_ble_eq_true rfl) ?_
  exact Kk hZ
theorem in_X1_init_50 {d : Nat} (hd : 1 ≤ d) (hZ : Z 51 I J R) (Kk : Z 52 I J (up2 R 50 2 (some 51)) → Post none 52 I J (up2 R 50 2 (some 51))) : Cal E d M_X1_init [.ref 50] 51 I J R Post := by
  refine Cal_of kn_X1_init rfl (Nat.le_of_ble_eq_true rfl) ?_
  refine V_aload_n dX1_init_0 rfl rfl ?_
  refine V_objInit dX1_init_1 oi_X1_3 (by omega) (by decide) ?_
  refine V_aload_n dX1_init_4 rfl rfl ?_
  refine V_bipush (v := 72) dX1_init_5 (by decide) ?_
  refine V_newarray (kd := 0) (len := 72) dX1_init_7 (Or.inl ⟨rfl, rfl⟩) rfl (by decide) (by decide) (Nat.le_of_ble_eq_true rfl) (Nat.le_of_ble_eq_true rfl) (Nat.le_of_ble_eq_true rfl) (fun s => hZ.1 _ (Nat.le_refl _) s) (fun s => hZ.2.1 _ (Nat.le_refl _) s) ?_
  have hZ := hZ.succ
  refine V_putF dX1_init_9 fl_X1_9 (by first | exact Or.inr ⟨rfl, rfl⟩ | exact Or.inl rfl) (by first | exact Or.inl ⟨_, rfl⟩ | exact Or.inr ⟨_, rfl⟩) ⟨Nat.le_of_ble_eq_true rfl, rfl⟩ ?_
  have hZ := hZ.put (k := 50) (s := 2) (v := some 51) (Nat.le_of_ble_eq_true rfl)
  refine V_return dX1_init_12 rfl rfl (Nat.le_of_ble_eq_true rfl) (Nat.le_of_ble_eq_true rfl) ?_
  exact Kk hZ
theorem in_X0_init_48 {d : Nat} (hd : 2 ≤ d) (hZ : Z 49 I J R) (Kk : Z 53 I J (up2 (up2 (up2 (up2 R 48 0 (some 49)) 50 2 (some 51)) 48 1 (some 50)) 48 2 (some 52)) → Post none 53 I J (up2 (up2 (up2 (up2 R 48 0 (some 49)) 50 2 (some 51)) 48 1 (some 50)) 48 2 (some 52))) : Cal E d M_X0_init [.ref 48] 49 I J R Post := by
  refine Cal_of kn_X0_init rfl (Nat.le_of_ble_eq_true rfl) ?_
  refine V_aload_n dX0_init_0 rfl rfl ?_
  refine V_objInit dX0_init_1 oi_X0_3 (by omega) (by decide) ?_
  refine V_aload_n dX0_init_4 rfl rfl ?_
  refine V_sipush (v := 1024) dX0_init_5 (by decide) ?_
  refine V_newarray (kd := 0) (len := 1024) dX0_init_8 (Or.inl ⟨rfl, rfl⟩) rfl (by decide) (by decide) (Nat.le_of_ble_eq_true rfl) (Nat.le_of_ble_eq_true rfl) (Nat.le_of_ble_eq_true rfl) (fun s => hZ.1 _ (Nat.le_refl _) s) (fun s => hZ.2.1 _ (Nat.le_refl _) s) ?_
  have hZ := hZ.succ
  refine V_putF dX0_init_10 fl_X0_9 (by first | exact Or.inr ⟨rfl, rfl⟩ | exact Or.inl rfl) (by first | exact Or.inl ⟨_, rfl⟩ | exact Or.inr ⟨_, rfl⟩) ⟨Nat.le_of_ble_eq_true rfl, rfl⟩ ?_
  have hZ := hZ.put (k := 48) (s := 0) (v := some 49) (Nat.le_of_ble_eq_true rfl)
  refine V_aload_n dX0_init_13 rfl rfl ?_
  refine V_new (ci := 1) (N := 3) dX0_init_14 nw_X0_15 rfl rfl (Nat.le_of_ble_eq_true rfl) (Nat.le_of_ble_eq_true rfl) (fun s => hZ.1 _ (Nat.le_refl _) s) (fun s => hZ.2.1 _ (Nat.le_refl _) s) (fun s => hZ.2.2 _ (Nat.le_refl _) s) ?_
  have hZ := hZ.succ
  refine V_dup dX0_init_17 rfl ?_
  refine V_cI0 (M' := M_X1_init) (d' := 1) dX0_init_18 (Or.inr ⟨_, ml_X0_17⟩) kn_X1_init ki_X1_init rfl rfl (by unfold nPar; decide +kernel) (by omega) (by decide) ⟨Nat.le_of_ble_eq_true rfl, Nat.le_of_ble_eq_true rfl⟩ ?_
  refine in_X1_init_50 (by omega) hZ (fun hZ => ⟨rfl, ?_⟩)
  refine V_putF dX0_init_21 fl_X0_18 (by first | exact Or.inr ⟨rfl, rfl⟩ | exact Or.inl rfl) (by first | exact Or.inl ⟨_, rfl⟩ | exact Or.inr ⟨_, rfl⟩) ⟨Nat.le_of_ble_eq_true rfl, rfl⟩ ?_
  have hZ := hZ.put (k := 48) (s := 1) (v := some 50) (Nat.le_of_ble_eq_true rfl)
  refine V_aload_n dX0_init_24 rfl rfl ?_
  refine V_bipush (v := 45) dX0_init_25 (by decide) ?_
  refine V_newarray (kd := 0) (len := 45) dX0_init_27 (Or.inl ⟨rfl, rfl⟩) rfl (by decide) (by decide) (Nat.le_of_ble_eq_true rfl) (Nat.le_of_ble_eq_true rfl) (Nat.le_of_ble_eq_true rfl) (fun s => hZ.1 _ (Nat.le_refl _) s) (fun s => hZ.2.1 _ (Nat.le_refl _) s) ?_
  have hZ := hZ.succ
  refine V_putF dX0_init_29 fl_X0_22 (by first | exact Or.inr ⟨rfl, rfl⟩ | exact Or.inl rfl) (by first | exact Or.inl ⟨_, rfl⟩ | exact Or.inr ⟨_, rfl⟩) ⟨Nat.le_of_ble_eq_true rfl, rfl⟩ ?_
  have hZ := hZ.put (k := 48) (s := 2) (v := some 52) (Nat.le_of_ble_eq_true rfl)
  refine V_return dX0_init_32 rfl rfl (Nat.le_of_ble_eq_true rfl) (Nat.le_of_ble_eq_true rfl) ?_
  exact Kk hZ
theorem in_X1_init_54 {d : Nat} (hd : 1 ≤ d) (hZ : Z 55 I J R) (Kk : Z 56 I J (up2 R 54 2 (some 55)) → Post none 56 I J (up2 R 54 2 (some 55))) : Cal E d M_X1_init [.ref 54] 55 I J R Post := by
  refine Cal_of kn_X1_init rfl (Nat.le_of_ble_eq_true rfl) ?_
  refine V_aload_n dX1_init_0 rfl rfl ?_
  refine V_objInit dX1_init_1 oi_X1_3 (by omega) (by decide) ?_
  refine V_aload_n dX1_init_4 rfl rfl ?_
  refine V_bipush (v := 72) dX1_init_5 (by decide) ?_
  refine V_newarray (kd := 0) (len := 72) dX1_init_7 (Or.inl ⟨rfl, rfl⟩) rfl (by decide) (by decide) (Nat.le_of_ble_eq_true rfl) (Nat.le_of_ble_eq_true rfl) (Nat.le_of_ble_eq_true rfl) (fun s => hZ.1 _ (Nat.le_refl _) s) (fun s => hZ.2.1 _ (Nat.le_refl _) s) ?_
  have hZ := hZ.succ
  refine V_putF dX1_init_9 fl_X1_9 (by first | exact Or.inr ⟨rfl, rfl⟩ | exact Or.inl rfl) (by first | exact Or.inl ⟨_, rfl⟩ | exact Or.inr ⟨_, rfl⟩) ⟨Nat.le_of_ble_eq_true rfl, rfl⟩ ?_
  have hZ := hZ.put (k := 54) (s := 2) (v := some 55) (Nat.le_of_ble_eq_true rfl)
  refine V_return dX1_init_12 rfl rfl (Nat.le_of_ble_eq_true rfl) (Nat.le_of_ble_eq_true rfl) ?_
  exact Kk hZ
theorem in_X9_init_53 {d : Nat} (hd : 2 ≤ d) (hZ : Z 54 I J R) (Kk : Z 59 I J (up2 (up2 (up2 (up2 (up2 R 54 2 (some 55)) 53 0 (some 54)) 53 1 (some 56)) 53 2 (some 57)) 53 4 (some 58)) → Post none 59 I J (up2 (up2 (up2 (up2 (up2 R 54 2 (some 55)) 53 0 (some 54)) 53 1 (some 56)) 53 2 (some 57)) 53 4 (some 58))) : Cal E d M_X9_init [.ref 53] 54 I J R Post := by
  refine Cal_of kn_X9_init rfl (Nat.le_of_ble_eq_true rfl) ?_
  refine V_aload_n dX9_init_0 rfl rfl ?_
  refine V_objInit dX9_init_1 oi_X9_3 (by omega) (by decide) ?_
  refine V_aload_n dX9_init_4 rfl rfl ?_
  refine V_new (ci := 1) (N := 3) dX9_init_5 nw_X9_9 rfl rfl (Nat.le_of_ble_eq_true rfl) (Nat.le_of_ble_eq_true rfl) (fun s => hZ.1 _ (Nat.le_refl _) s) (fun s => hZ.2.1 _ (Nat.le_refl _) s) (fun s => hZ.2.2 _ (Nat.le_refl _) s) ?_
  have hZ := hZ.succ
  refine V_dup dX9_init_8 rfl ?_
  refine V_cI0 (M' := M_X1_init) (d' := 1) dX9_init_9 (Or.inr ⟨_, ml_X9_11⟩) kn_X1_init ki_X1_init rfl rfl (by unfold nPar; decide +kernel) (by omega) (by decide) ⟨Nat.le_of_ble_eq_true rfl, Nat.le_of_ble_eq_true rfl⟩ ?_
  refine in_X1_init_54 (by omega) hZ (fun hZ => ⟨rfl, ?_⟩)
  refine V_putF dX9_init_12 fl_X9_12 (by first | exact Or.inr ⟨rfl, rfl⟩ | exact Or.inl rfl) (by first | exact Or.inl ⟨_, rfl⟩ | exact Or.inr ⟨_, rfl⟩) ⟨Nat.le_of_ble_eq_true rfl, rfl⟩ ?_
  have hZ := hZ.put (k := 53) (s := 0) (v := some 54) (Nat.le_of_ble_eq_true rfl)
  refine V_aload_n dX9_init_15 rfl rfl ?_
  refine V_bipush (v := 80) dX9_init_16 (by decide) ?_
  refine V_newarray (kd := 0) (len := 80) dX9_init_18 (Or.inl ⟨rfl, rfl⟩) rfl (by decide) (by decide) (Nat.le_of_ble_eq_true rfl) (Nat.le_of_ble_eq_true rfl) (Nat.le_of_ble_eq_true rfl) (fun s => hZ.1 _ (Nat.le_refl _) s) (fun s => hZ.2.1 _ (Nat.le_refl _) s) ?_
  have hZ := hZ.succ
  refine V_putF dX9_init_20 fl_X9_18 (by first | exact Or.inr ⟨rfl, rfl⟩ | exact Or.inl rfl) (by first | exact Or.inl ⟨_, rfl⟩ | exact Or.inr ⟨_, rfl⟩) ⟨Nat.le_of_ble_eq_true rfl, rfl⟩ ?_
  have hZ := hZ.put (k := 53) (s := 1) (v := some 56) (Nat.le_of_ble_eq_true rfl)
  refine V_aload_n dX9_init_23 rfl rfl ?_
  refine V_bipush (v := 80) dX9_init_24 (by decide) ?_
  refine V_newarray (kd := 0) (len := 80) dX9_init_26 (Or.inl ⟨rfl, rfl⟩) rfl (by decide) (by decide) (Nat.le_of_ble_eq_true rfl) (Nat.le_of_ble_eq_true rfl) (Nat.le_of_ble_eq_true rfl) (fun s => hZ.1 _ (Nat.le_refl _) s) (fun s => hZ.2.1 _ (Nat.le_refl _) s) ?_
  have hZ := hZ.succ
  refine V_putF dX9_init_28 fl_X9_22 (by first | exact Or.inr ⟨rfl, rfl⟩ | exact Or.inl rfl) (by first | exact Or.inl ⟨_, rfl⟩ | exact Or.inr ⟨_, rfl⟩) ⟨Nat.le_of_ble_eq_true rfl, rfl⟩ ?_
  have hZ := hZ.put (k := 53) (s := 2) (v := some 57) (Nat.le_of_ble_eq_true rfl)
  refine V_aload_n dX9_init_31 rfl rfl ?_
  refine V_sipush (v := 240) dX9_init_32 (by decide) ?_
  refine V_newarray (kd := 2) (len := 240) dX9_init_35 (Or.inr (Or.inr ⟨rfl, rfl⟩)) rfl (by decide) (by decide) (Nat.le_of_ble_eq_true rfl) (Nat.le_of_ble_eq_true rfl) (Nat.le_of_ble_eq_true rfl) (fun s => hZ.1 _ (Nat.le_refl _) s) (fun s => hZ.2.1 _ (Nat.le_refl _) s) ?_
  have hZ := hZ.succ
  refine V_putF dX9_init_37 fl_X9_25 (by first | exact Or.inr ⟨rfl, rfl⟩ | exact Or.inl rfl) (by first | exact Or.inl ⟨_, rfl⟩ | exact Or.inr ⟨_, rfl⟩) ⟨Nat.le_of_ble_eq_true rfl, rfl⟩ ?_
  have hZ := hZ.put (k := 53) (s := 4) (v := some 58) (Nat.le_of_ble_eq_true rfl)
  refine V_return dX9_init_40 rfl rfl (Nat.le_of_ble_eq_true rfl) (Nat.le_of_ble_eq_true rfl) ?_
  exact Kk hZ
theorem in_X7_init_59 {d : Nat} (hd : 1 ≤ d) (hZ : Z 60 I J R) (Kk : Z 64 I J (up2 (up2 (up2 (up2 R 59 0 (some 60)) 59 1 (some 61)) 59 2 (some 62)) 59 3 (some 63)) → Post none 64 I J (up2 (up2 (up2 (up2 R 59 0 (some 60)) 59 1 (some 61)) 59 2 (some 62)) 59 3 (some 63))) : Cal E d M_X7_init [.ref 59] 60 I J R Post := by
  refine Cal_of kn_X7_init rfl (Nat.le_of_ble_eq_true rfl) ?_
  refine V_aload_n dX7_init_0 rfl rfl ?_
  refine V_objInit dX7_init_1 oi_X7_3 (by omega) (by decide) ?_
  refine V_aload_n dX7_init_4 rfl rfl ?_
  refine V_sipush (v := 1024) dX7_init_5 (by decide) ?_
  refine V_newarray (kd := 0) (len := 1024) dX7_init_8 (Or.inl ⟨rfl, rfl⟩) rfl (by decide) (by decide) (Nat.le_of_ble_eq_true rfl) (Nat.le_of_ble_eq_true rfl) (Nat.le_of_ble_eq_true rfl) (fun s => hZ.1 _ (Nat.le_refl _) s) (fun s => hZ.2.1 _ (Nat.le_refl _) s) ?_
  have hZ := hZ.succ
  refine V_putF dX7_init_10 fl_X7_9 (by first | exact Or.inr ⟨rfl, rfl⟩ | exact Or.inl rfl) (by first | exact Or.inl ⟨_, rfl⟩ | exact Or.inr ⟨_, rfl⟩) ⟨Nat.le_of_ble_eq_true rfl, rfl⟩ ?_
  have hZ := hZ.put (k := 59) (s := 0) (v := some 60) (Nat.le_of_ble_eq_true rfl)
  refine V_aload_n dX7_init_13 rfl rfl ?_
  refine V_sipush (v := 1024) dX7_init_14 (by decide) ?_
  refine V_newarray (kd := 0) (len := 1024) dX7_init_17 (Or.inl ⟨rfl, rfl⟩) rfl (by decide) (by decide) (Nat.le_of_ble_eq_true rfl) (Nat.le_of_ble_eq_true rfl) (Nat.le_of_ble_eq_true rfl) (fun s => hZ.1 _ (Nat.le_refl _) s) (fun s => hZ.2.1 _ (Nat.le_refl _) s) ?_
  have hZ := hZ.succ
  refine V_putF dX7_init_19 fl_X7_15 (by first | exact Or.inr ⟨rfl, rfl⟩ | exact Or.inl rfl) (by first | exact Or.inl ⟨_, rfl⟩ | exact Or.inr ⟨_, rfl⟩) ⟨Nat.le_of_ble_eq_true rfl, rfl⟩ ?_
  have hZ := hZ.put (k := 59) (s := 1) (v := some 61) (Nat.le_of_ble_eq_true rfl)
  refine V_aload_n dX7_init_22 rfl rfl ?_
  refine V_sipush (v := 1024) dX7_init_23 (by decide) ?_
  refine V_newarray (kd := 0) (len := 1024) dX7_init_26 (Or.inl ⟨rfl, rfl⟩) rfl (by decide) (by decide) (Nat.le_of_ble_eq_true rfl) (Nat.le_of_ble_eq_true rfl) (Nat.le_of_ble_eq_true rfl) (fun s => hZ.1 _ (Nat.le_refl _) s) (fun s => hZ.2.1 _ (Nat.le_refl _) s) ?_
  have hZ := hZ.succ
  refine V_putF dX7_init_28 fl_X7_18 (by first | exact Or.inr ⟨rfl, rfl⟩ | exact Or.inl rfl) (by first | exact Or.inl ⟨_, rfl⟩ | exact Or.inr ⟨_, rfl⟩) ⟨Nat.le_of_ble_eq_true rfl, rfl⟩ ?_
  have hZ := hZ.put (k := 59) (s := 2) (v := some 62) (Nat.le_of_ble_eq_true rfl)
  refine V_aload_n dX7_init_31 rfl rfl ?_
  refine V_sipush (v := 1024) dX7_init_32 (by decide) ?_
  refine V_newarray (kd := 0) (len := 1024) dX7_init_35 (Or.inl ⟨rfl, rfl⟩) rfl (by decide) (by decide) (Nat.le_of_ble_eq_true rfl) (Nat.le_of_ble_eq_true rfl) (Nat.le_of_ble_eq_true rfl) (fun s => hZ.1 _ (Nat.le_refl _) s) (fun s => hZ.2.1 _ (Nat.le_refl _) s) ?_
  have hZ := hZ.succ
  refine V_putF dX7_init_37 fl_X7_21 (by first | exact Or.inr ⟨rfl, rfl⟩ | exact Or.inl rfl) (by first | exact Or.inl ⟨_, rfl⟩ | exact Or.inr ⟨_, rfl⟩) ⟨Nat.le_of_ble_eq_true rfl, rfl⟩ ?_
  have hZ := hZ.put (k := 59) (s := 3) (v := some 63) (Nat.le_of_ble_eq_true rfl)
  refine V_return dX7_init_40 rfl rfl (Nat.le_of_ble_eq_true rfl) (Nat.le_of_ble_eq_true rfl) ?_
  exact Kk hZ
theorem in_X8_init_64 {d : Nat} (hd : 1 ≤ d) (hZ : Z 65 I J R) (Kk : Z 70 I J (up2 (up2 (up2 (up2 (up2 R 64 0 (some 65)) 64 1 (some 66)) 64 2 (some 67)) 64 4 (some 68)) 64 5 (some 69)) → Post none 70 I J (up2 (up2 (up2 (up2 (up2 R 64 0 (some 65)) 64 1 (some 66)) 64 2 (some 67)) 64 4 (some 68)) 64 5 (some 69))) : Cal E d M_X8_init [.ref 64] 65 I J R Post := by
  refine Cal_of kn_X8_init rfl (Nat.le_of_ble_eq_true rfl) ?_
  refine V_aload_n dX8_init_0 rfl rfl ?_
  refine V_objInit dX8_init_1 oi_X8_3 (by omega) (by decide) ?_
  refine V_aload_n dX8_init_4 rfl rfl ?_
  refine V_bipush (v := 32) dX8_init_5 (by decide) ?_
  refine V_newarray (kd := 0) (len := 32) dX8_init_7 (Or.inl ⟨rfl, rfl⟩) rfl (by decide) (by decide) (Nat.le_of_ble_eq_true rfl) (Nat.le_of_ble_eq_true rfl) (Nat.le_of_ble_eq_true rfl) (fun s => hZ.1 _ (Nat.le_refl _) s) (fun s => hZ.2.1 _ (Nat.le_refl _) s) ?_
  have hZ := hZ.succ
  refine V_putF dX8_init_9 fl_X8_11 (by first | exact Or.inr ⟨rfl, rfl⟩ | exact Or.inl rfl) (by first | exact Or.inl ⟨_, rfl⟩ | exact Or.inr ⟨_, rfl⟩) ⟨Nat.le_of_ble_eq_true rfl, rfl⟩ ?_
  have hZ := hZ.put (k := 64) (s := 0) (v := some 65) (Nat.le_of_ble_eq_true rfl)
  refine V_aload_n dX8_init_12 rfl rfl ?_
  refine V_bipush (v := 32) dX8_init_13 (by decide) ?_
  refine V_newarray (kd := 0) (len := 32) dX8_init_15 (Or.inl ⟨rfl, rfl⟩) rfl (by decide) (by decide) (Nat.le_of_ble_eq_true rfl) (Nat.le_of_ble_eq_true rfl) (Nat.le_of_ble_eq_true rfl) (fun s => hZ.1 _ (Nat.le_refl _) s) (fun s => hZ.2.1 _ (Nat.le_refl _) s) ?_
  have hZ := hZ.succ
  refine V_putF dX8_init_17 fl_X8_15 (by first | exact Or.inr ⟨rfl, rfl⟩ | exact Or.inl rfl) (by first | exact Or.inl ⟨_, rfl⟩ | exact Or.inr ⟨_, rfl⟩) ⟨Nat.le_of_ble_eq_true rfl, rfl⟩ ?_
  have hZ := hZ.put (k := 64) (s := 1) (v := some 66) (Nat.le_of_ble_eq_true rfl)
  refine V_aload_n dX8_init_20 rfl rfl ?_
  refine V_bipush (v := 32) dX8_init_21 (by decide) ?_
  refine V_newarray (kd := 0) (len := 32) dX8_init_23 (Or.inl ⟨rfl, rfl⟩) rfl (by decide) (by decide) (Nat.le_of_ble_eq_true rfl) (Nat.le_of_ble_eq_true rfl) (Nat.le_of_ble_eq_true rfl) (fun s => hZ.1 _ (Nat.le_refl _) s) (fun s => hZ.2.1 _ (Nat.le_refl _) s) ?_
  have hZ := hZ.succ
  refine V_putF dX8_init_25 fl_X8_18 (by first | exact Or.inr ⟨rfl, rfl⟩ | exact Or.inl rfl) (by first | exact Or.inl ⟨_, rfl⟩ | exact Or.inr ⟨_, rfl⟩) ⟨Nat.le_of_ble_eq_true rfl, rfl⟩ ?_
  have hZ := hZ.put (k := 64) (s := 2) (v := some 67) (Nat.le_of_ble_eq_true rfl)
  refine V_aload_n dX8_init_28 rfl rfl ?_
  refine V_sipush (v := 3300) dX8_init_29 (by decide) ?_
  refine V_newarray (kd := 0) (len := 3300) dX8_init_32 (Or.inl ⟨rfl, rfl⟩) rfl (by decide) (by decide) (Nat.le_of_ble_eq_true rfl) (Nat.le_of_ble_eq_true rfl) (Nat.le_of_ble_eq_true rfl) (fun s => hZ.1 _ (Nat.le_refl _) s) (fun s => hZ.2.1 _ (Nat.le_refl _) s) ?_
  have hZ := hZ.succ
  refine V_putF dX8_init_34 fl_X8_21 (by first | exact Or.inr ⟨rfl, rfl⟩ | exact Or.inl rfl) (by first | exact Or.inl ⟨_, rfl⟩ | exact Or.inr ⟨_, rfl⟩) ⟨Nat.le_of_ble_eq_true rfl, rfl⟩ ?_
  have hZ := hZ.put (k := 64) (s := 4) (v := some 68) (Nat.le_of_ble_eq_true rfl)
  refine V_aload_n dX8_init_37 rfl rfl ?_
  refine V_bipush (v := 32) dX8_init_38 (by decide) ?_
  refine V_newarray (kd := 0) (len := 32) dX8_init_40 (Or.inl ⟨rfl, rfl⟩) rfl (by decide) (by decide) (Nat.le_of_ble_eq_true rfl) (Nat.le_of_ble_eq_true rfl) (Nat.le_of_ble_eq_true rfl) (fun s => hZ.1 _ (Nat.le_refl _) s) (fun s => hZ.2.1 _ (Nat.le_refl _) s) ?_
  have hZ := hZ.succ
  refine V_putF dX8_init_42 fl_X8_24 (by first | exact Or.inr ⟨rfl, rfl⟩ | exact Or.inl rfl) (by first | exact Or.inl ⟨_, rfl⟩ | exact Or.inr ⟨_, rfl⟩) ⟨Nat.le_of_ble_eq_true rfl, rfl⟩ ?_
  have hZ := hZ.put (k := 64) (s := 5) (v := some 69) (Nat.le_of_ble_eq_true rfl)
  refine V_return dX8_init_45 rfl rfl (Nat.le_of_ble_eq_true rfl) (Nat.le_of_ble_eq_true rfl) ?_
  exact Kk hZ
end
abbrev RA : TR := (up2 (up2 (up2 (up2 (up2 (up2 (up2 (up2 (up2 (up2 (up2 (up2 (up2 (up2 (up2 (up2 (up2 (up2 (up2 (up2 (up2 (up2 (up2 (up2 (up2 (up2 (up2 (up2 (up2 (up2 (up2 (up2 (up2 (up2 (up2 (up2 (up2 (up2 (up2 (up2 (up2 (up2 (up2 (up2 (up2 (up2 (up2 (up2 (up2 (up2 (up2 (up2 (up2 (up2 (up2 (up2 (up2 (up2 (up2 (up2 (up2 (up2 (up2 (up2 (up2 (up2 (up2 (up2 (up2 (fun _ _ => none) 0 0 (some 1)) 2 0 (some 3)) 0 2 (some 2)) 4 3 (some 5)) 4 4 (some 6)) 4 5 (some 7)) 4 6 (some 8)) 4 7 (some 9)) 4 8 (some 10)) 4 9 (some 11)) 12 2 (some 13)) 12 3 (some 14)) 4 11 (some 12)) 4 12 (some 15)) 4 17 (some 16)) 4 18 (some 17)) 0 3 (some 4)) 18 3 (some 19)) 18 4 (some 20)) 18 5 (some 21)) 18 6 (some 22)) 18 7 (some 23)) 18 8 (some 24)) 18 9 (some 25)) 26 2 (some 27)) 26 3 (some 28)) 18 11 (some 26)) 18 12 (some 29)) 18 17 (some 30)) 18 18 (some 31)) 0 4 (some 18)) 32 1 (some 33)) 32 2 (some 34)) 0 5 (some 32)) 35 1 (some 36)) 35 2 (some 37)) 0 6 (some 35)) 38 1 (some 39)) 38 2 (some 40)) 0 7 (some 38)) 0 9 (some 41)) 42 3 (some 43)) 42 4 (some 44)) 42 5 (some 45)) 42 6 (some 46)) 42 7 (some 47)) 0 10 (some 42)) 48 0 (some 49)) 50 2 (some 51)) 48 1 (some 50)) 48 2 (some 52)) 0 11 (some 48)) 54 2 (some 55)) 53 0 (some 54)) 53 1 (some 56)) 53 2 (some 57)) 53 4 (some 58)) 0 12 (some 53)) 59 0 (some 60)) 59 1 (some 61)) 59 2 (some 62)) 59 3 (some 63)) 0 13 (some 59)) 64 0 (some 65)) 64 1 (some 66)) 64 2 (some 67)) 64 4 (some 68)) 64 5 (some 69)) 0 14 (some 64))
abbrev R1 : TR := fun k s => if k < 70 then RR 4 18 none none none k s else none
abbrev RBm : TR := (up2 (up2 (up2 (up2 (up2 (up2 (up2 (up2 (up2 (up2 (up2 (up2 (up2 (up2 (up2 (up2 (up2 (up2 (up2 (up2 (up2 (up2 (up2 (up2 (up2 (up2 (up2 (up2 (up2 (up2 (up2 (up2 (up2 (up2 (up2 R1 70 1 (some 71)) 70 2 (some 72)) 70 3 (some 73)) 70 4 (some 74)) 70 5 (some 75)) 70 6 (some 76)) 70 7 (some 77)) 70 8 (some 78)) 70 9 (some 79)) 70 10 (some 80)) 70 11 (some 81)) 70 12 (some 82)) 70 13 (some 83)) 70 14 (some 84)) 70 15 (some 85)) 70 16 (some 86)) 70 17 (some 87)) 70 18 (some 88)) 70 19 (some 89)) 70 20 (some 90)) 70 21 (some 91)) 70 24 (some 92)) 70 25 (some 93)) 70 26 (some 94)) 70 27 (some 95)) 70 28 (some 96)) 70 29 (some 97)) 70 33 (some 98)) 70 34 (some 99)) 70 35 (some 100)) 70 36 (some 101)) 70 37 (some 102)) 70 38 (some 103)) 70 40 (some 104)) 70 41 (some 105))
theorem RA_ok : ∀ k, k < 70 → ∀ s, s < 42 → RA k s = RR 4 18 none none none k s := by decide +kernel
theorem RB_ok : ∀ k, k < 106 → ∀ s, s < 42 → RBm k s = RR 4 18 none none none k s := by decide +kernel
def KI : KT := aOw (aPa (aPl K0 50 0) 50 0 10 0) 0 0
section
variable {E : En} {Post : PT}
theorem in_X10 {d : Nat} (hd : 6 ≤ d) (Kk : ∀ I', CS (fun _ => 0) 0 KI D0 D0 D0 0 (fun _ => 0) I' (fun _ _ => 0) (RR 4 18 none none none) → (∀ x y, 70 ≤ x → I' x y = 0) → Post none 70 I' (fun _ _ => 0) (RR 4 18 none none none)) : Cal E d M_X10_init [.ref 0] 1 (fun _ _ => 0) (fun _ _ => 0) (fun _ _ => none) Post := by
  have hZ : Z 1 (fun _ _ => (0 : Int32)) (fun _ _ => (0 : Int64)) (fun _ _ => none) := ⟨fun _ _ _ => rfl, fun _ _ _ => rfl, fun _ _ _ => rfl⟩
  refine Cal_of kn_X10_init rfl (Nat.le_of_ble_eq_true rfl) ?_
  refine V_aload_n dX10_init_0 rfl rfl ?_
  refine V_objInit dX10_init_1 oi_X10_3 (by omega) (by decide) ?_
  refine V_aload_n dX10_init_4 rfl rfl ?_
  refine V_sipush (v := 400) dX10_init_5 (by decide) ?_
  refine V_newarray (kd := 1) (len := 400) dX10_init_8 (Or.inr (Or.inl ⟨rfl, rfl⟩)) rfl (by decide) (by decide) (Nat.le_of_ble_eq_true rfl) (Nat.le_of_ble_eq_true rfl) (Nat.le_of_ble_eq_true rfl) (fun s => hZ.1 _ (Nat.le_refl _) s) (fun s => hZ.2.1 _ (Nat.le_refl _) s) ?_
  have hZ := hZ.succ
  refine V_putF dX10_init_10 fl_X10_9 (by first | exact Or.inr ⟨rfl, rfl⟩ | exact Or.inl rfl) (by first | exact Or.inl ⟨_, rfl⟩ | exact Or.inr ⟨_, rfl⟩) ⟨Nat.le_of_ble_eq_true rfl, rfl⟩ ?_
  have hZ := hZ.put (k := 0) (s := 0) (v := some 1) (Nat.le_of_ble_eq_true rfl)
  refine V_aload_n dX10_init_13 rfl rfl ?_
  refine V_new (ci := 6) (N := 2) dX10_init_14 nw_X10_13 rfl rfl (Nat.le_of_ble_eq_true rfl) (Nat.le_of_ble_eq_true rfl) (fun s => hZ.1 _ (Nat.le_refl _) s) (fun s => hZ.2.1 _ (Nat.le_refl _) s) (fun s => hZ.2.2 _ (Nat.le_refl _) s) ?_
  have hZ := hZ.succ
  refine V_dup dX10_init_17 rfl ?_
  refine V_cI0 (M' := M_X6_init) (d' := 1) dX10_init_18 (Or.inr ⟨_, ml_X10_15⟩) kn_X6_init ki_X6_init rfl rfl (by unfold nPar; decide +kernel) (by omega) (by decide) ⟨Nat.le_of_ble_eq_true rfl, Nat.le_of_ble_eq_true rfl⟩ ?_
  refine in_X6_init_2 (by omega) hZ (fun hZ => ⟨rfl, ?_⟩)
  refine V_putF dX10_init_21 fl_X10_16 (by first | exact Or.inr ⟨rfl, rfl⟩ | exact Or.inl rfl) (by first | exact Or.inl ⟨_, rfl⟩ | exact Or.inr ⟨_, rfl⟩) ⟨Nat.le_of_ble_eq_true rfl, rfl⟩ ?_
  have hZ := hZ.put (k := 0) (s := 2) (v := some 2) (Nat.le_of_ble_eq_true rfl)
  refine V_aload_n dX10_init_24 rfl rfl ?_
  refine V_new (ci := 3) (N := 19) dX10_init_25 nw_X10_20 rfl rfl (Nat.le_of_ble_eq_true rfl) (Nat.le_of_ble_eq_true rfl) (fun s => hZ.1 _ (Nat.le_refl _) s) (fun s => hZ.2.1 _ (Nat.le_refl _) s) (fun s => hZ.2.2 _ (Nat.le_refl _) s) ?_
  have hZ := hZ.succ
  refine V_dup dX10_init_28 rfl ?_
  refine V_cI0 (M' := M_X3_init) (d' := 2) dX10_init_29 (Or.inr ⟨_, ml_X10_22⟩) kn_X3_init ki_X3_init rfl rfl (by unfold nPar; decide +kernel) (by omega) (by decide) ⟨Nat.le_of_ble_eq_true rfl, Nat.le_of_ble_eq_true rfl⟩ ?_
  refine in_X3_init_4 (by omega) hZ (fun hZ => ⟨rfl, ?_⟩)
  refine V_putF dX10_init_32 fl_X10_23 (by first | exact Or.inr ⟨rfl, rfl⟩ | exact Or.inl rfl) (by first | exact Or.inl ⟨_, rfl⟩ | exact Or.inr ⟨_, rfl⟩) ⟨Nat.le_of_ble_eq_true rfl, rfl⟩ ?_
  have hZ := hZ.put (k := 0) (s := 3) (v := some 4) (Nat.le_of_ble_eq_true rfl)
  refine V_aload_n dX10_init_35 rfl rfl ?_
  refine V_new (ci := 3) (N := 19) dX10_init_36 nw_X10_20 rfl rfl (Nat.le_of_ble_eq_true rfl) (Nat.le_of_ble_eq_true rfl) (fun s => hZ.1 _ (Nat.le_refl _) s) (fun s => hZ.2.1 _ (Nat.le_refl _) s) (fun s => hZ.2.2 _ (Nat.le_refl _) s) ?_
  have hZ := hZ.succ
  refine V_dup dX10_init_39 rfl ?_
  refine V_cI0 (M' := M_X3_init) (d' := 2) dX10_init_40 (Or.inr ⟨_, ml_X10_22⟩) kn_X3_init ki_X3_init rfl rfl (by unfold nPar; decide +kernel) (by omega) (by decide) ⟨Nat.le_of_ble_eq_true rfl, Nat.le_of_ble_eq_true rfl⟩ ?_
  refine in_X3_init_18 (by omega) hZ (fun hZ => ⟨rfl, ?_⟩)
  refine V_putF dX10_init_43 fl_X10_27 (by first | exact Or.inr ⟨rfl, rfl⟩ | exact Or.inl rfl) (by first | exact Or.inl ⟨_, rfl⟩ | exact Or.inr ⟨_, rfl⟩) ⟨Nat.le_of_ble_eq_true rfl, rfl⟩ ?_
  have hZ := hZ.put (k := 0) (s := 4) (v := some 18) (Nat.le_of_ble_eq_true rfl)
  refine V_aload_n dX10_init_46 rfl rfl ?_
  refine V_new (ci := 4) (N := 3) dX10_init_47 nw_X10_30 rfl rfl (Nat.le_of_ble_eq_true rfl) (Nat.le_of_ble_eq_true rfl) (fun s => hZ.1 _ (Nat.le_refl _) s) (fun s => hZ.2.1 _ (Nat.le_refl _) s) (fun s => hZ.2.2 _ (Nat.le_refl _) s) ?_
  have hZ := hZ.succ
  refine V_dup dX10_init_50 rfl ?_
  refine V_cI0 (M' := M_X4_init) (d' := 1) dX10_init_51 (Or.inr ⟨_, ml_X10_32⟩) kn_X4_init ki_X4_init rfl rfl (by unfold nPar; decide +kernel) (by omega) (by decide) ⟨Nat.le_of_ble_eq_true rfl, Nat.le_of_ble_eq_true rfl⟩ ?_
  refine in_X4_init_32 (by omega) hZ (fun hZ => ⟨rfl, ?_⟩)
  refine V_putF dX10_init_54 fl_X10_33 (by first | exact Or.inr ⟨rfl, rfl⟩ | exact Or.inl rfl) (by first | exact Or.inl ⟨_, rfl⟩ | exact Or.inr ⟨_, rfl⟩) ⟨Nat.le_of_ble_eq_true rfl, rfl⟩ ?_
  have hZ := hZ.put (k := 0) (s := 5) (v := some 32) (Nat.le_of_ble_eq_true rfl)
  refine V_aload_n dX10_init_57 rfl rfl ?_
  refine V_new (ci := 4) (N := 3) dX10_init_58 nw_X10_30 rfl rfl (Nat.le_of_ble_eq_true rfl) (Nat.le_of_ble_eq_true rfl) (fun s => hZ.1 _ (Nat.le_refl _) s) (fun s => hZ.2.1 _ (Nat.le_refl _) s) (fun s => hZ.2.2 _ (Nat.le_refl _) s) ?_
  have hZ := hZ.succ
  refine V_dup dX10_init_61 rfl ?_
  refine V_cI0 (M' := M_X4_init) (d' := 1) dX10_init_62 (Or.inr ⟨_, ml_X10_32⟩) kn_X4_init ki_X4_init rfl rfl (by unfold nPar; decide +kernel) (by omega) (by decide) ⟨Nat.le_of_ble_eq_true rfl, Nat.le_of_ble_eq_true rfl⟩ ?_
  refine in_X4_init_35 (by omega) hZ (fun hZ => ⟨rfl, ?_⟩)
  refine V_putF dX10_init_65 fl_X10_37 (by first | exact Or.inr ⟨rfl, rfl⟩ | exact Or.inl rfl) (by first | exact Or.inl ⟨_, rfl⟩ | exact Or.inr ⟨_, rfl⟩) ⟨Nat.le_of_ble_eq_true rfl, rfl⟩ ?_
  have hZ := hZ.put (k := 0) (s := 6) (v := some 35) (Nat.le_of_ble_eq_true rfl)
  refine V_aload_n dX10_init_68 rfl rfl ?_
  refine V_new (ci := 4) (N := 3) dX10_init_69 nw_X10_30 rfl rfl (Nat.le_of_ble_eq_true rfl) (Nat.le_of_ble_eq_true rfl) (fun s => hZ.1 _ (Nat.le_refl _) s) (fun s => hZ.2.1 _ (Nat.le_refl _) s) (fun s => hZ.2.2 _ (Nat.le_refl _) s) ?_
  have hZ := hZ.succ
  refine V_dup dX10_init_72 rfl ?_
  refine V_cI0 (M' := M_X4_init) (d' := 1) dX10_init_73 (Or.inr ⟨_, ml_X10_32⟩) kn_X4_init ki_X4_init rfl rfl (by unfold nPar; decide +kernel) (by omega) (by decide) ⟨Nat.le_of_ble_eq_true rfl, Nat.le_of_ble_eq_true rfl⟩ ?_
  refine in_X4_init_38 (by omega) hZ (fun hZ => ⟨rfl, ?_⟩)
  refine V_putF dX10_init_76 fl_X10_40 (by first | exact Or.inr ⟨rfl, rfl⟩ | exact Or.inl rfl) (by first | exact Or.inl ⟨_, rfl⟩ | exact Or.inr ⟨_, rfl⟩) ⟨Nat.le_of_ble_eq_true rfl, rfl⟩ ?_
  have hZ := hZ.put (k := 0) (s := 7) (v := some 38) (Nat.le_of_ble_eq_true rfl)
  refine V_aload_n dX10_init_79 rfl rfl ?_
  refine V_bipush (v := 10) dX10_init_80 (by decide) ?_
  refine V_newarray (kd := 0) (len := 10) dX10_init_82 (Or.inl ⟨rfl, rfl⟩) rfl (by decide) (by decide) (Nat.le_of_ble_eq_true rfl) (Nat.le_of_ble_eq_true rfl) (Nat.le_of_ble_eq_true rfl) (fun s => hZ.1 _ (Nat.le_refl _) s) (fun s => hZ.2.1 _ (Nat.le_refl _) s) ?_
  have hZ := hZ.succ
  refine V_putF dX10_init_84 fl_X10_43 (by first | exact Or.inr ⟨rfl, rfl⟩ | exact Or.inl rfl) (by first | exact Or.inl ⟨_, rfl⟩ | exact Or.inr ⟨_, rfl⟩) ⟨Nat.le_of_ble_eq_true rfl, rfl⟩ ?_
  have hZ := hZ.put (k := 0) (s := 9) (v := some 41) (Nat.le_of_ble_eq_true rfl)
  refine V_aload_n dX10_init_87 rfl rfl ?_
  refine V_new (ci := 2) (N := 9) dX10_init_88 nw_X10_47 rfl rfl (Nat.le_of_ble_eq_true rfl) (Nat.le_of_ble_eq_true rfl) (fun s => hZ.1 _ (Nat.le_refl _) s) (fun s => hZ.2.1 _ (Nat.le_refl _) s) (fun s => hZ.2.2 _ (Nat.le_refl _) s) ?_
  have hZ := hZ.succ
  refine V_dup dX10_init_91 rfl ?_
  refine V_cI0 (M' := M_X2_init) (d' := 1) dX10_init_92 (Or.inr ⟨_, ml_X10_49⟩) kn_X2_init ki_X2_init rfl rfl (by unfold nPar; decide +kernel) (by omega) (by decide) ⟨Nat.le_of_ble_eq_true rfl, Nat.le_of_ble_eq_true rfl⟩ ?_
  refine in_X2_init_42 (by omega) hZ (fun hZ => ⟨rfl, ?_⟩)
  refine V_putF dX10_init_95 fl_X10_50 (by first | exact Or.inr ⟨rfl, rfl⟩ | exact Or.inl rfl) (by first | exact Or.inl ⟨_, rfl⟩ | exact Or.inr ⟨_, rfl⟩) ⟨Nat.le_of_ble_eq_true rfl, rfl⟩ ?_
  have hZ := hZ.put (k := 0) (s := 10) (v := some 42) (Nat.le_of_ble_eq_true rfl)
  refine V_aload_n dX10_init_98 rfl rfl ?_
  refine V_new (ci := 0) (N := 4) dX10_init_99 nw_X10_54 rfl rfl (Nat.le_of_ble_eq_true rfl) (Nat.le_of_ble_eq_true rfl) (fun s => hZ.1 _ (Nat.le_refl _) s) (fun s => hZ.2.1 _ (Nat.le_refl _) s) (fun s => hZ.2.2 _ (Nat.le_refl _) s) ?_
  have hZ := hZ.succ
  refine V_dup dX10_init_102 rfl ?_
  refine V_cI0 (M' := M_X0_init) (d' := 2) dX10_init_103 (Or.inr ⟨_, ml_X10_56⟩) kn_X0_init ki_X0_init rfl rfl (by unfold nPar; decide +kernel) (by omega) (by decide) ⟨Nat.le_of_ble_eq_true rfl, Nat.le_of_ble_eq_true rfl⟩ ?_
  refine in_X0_init_48 (by omega) hZ (fun hZ => ⟨rfl, ?_⟩)
  refine V_putF dX10_init_106 fl_X10_57 (by first | exact Or.inr ⟨rfl, rfl⟩ | exact Or.inl rfl) (by first | exact Or.inl ⟨_, rfl⟩ | exact Or.inr ⟨_, rfl⟩) ⟨Nat.le_of_ble_eq_true rfl, rfl⟩ ?_
  have hZ := hZ.put (k := 0) (s := 11) (v := some 48) (Nat.le_of_ble_eq_true rfl)
  refine V_aload_n dX10_init_109 rfl rfl ?_
  refine V_new (ci := 9) (N := 10) dX10_init_110 nw_X10_61 rfl rfl (Nat.le_of_ble_eq_true rfl) (Nat.le_of_ble_eq_true rfl) (fun s => hZ.1 _ (Nat.le_refl _) s) (fun s => hZ.2.1 _ (Nat.le_refl _) s) (fun s => hZ.2.2 _ (Nat.le_refl _) s) ?_
  have hZ := hZ.succ
  refine V_dup dX10_init_113 rfl ?_
  refine V_cI0 (M' := M_X9_init) (d' := 2) dX10_init_114 (Or.inr ⟨_, ml_X10_63⟩) kn_X9_init ki_X9_init rfl rfl (by unfold nPar; decide +kernel) (by omega) (by decide) ⟨Nat.le_of_ble_eq_true rfl, Nat.le_of_ble_eq_true rfl⟩ ?_
  refine in_X9_init_53 (by omega) hZ (fun hZ => ⟨rfl, ?_⟩)
  refine V_putF dX10_init_117 fl_X10_64 (by first | exact Or.inr ⟨rfl, rfl⟩ | exact Or.inl rfl) (by first | exact Or.inl ⟨_, rfl⟩ | exact Or.inr ⟨_, rfl⟩) ⟨Nat.le_of_ble_eq_true rfl, rfl⟩ ?_
  have hZ := hZ.put (k := 0) (s := 12) (v := some 53) (Nat.le_of_ble_eq_true rfl)
  refine V_aload_n dX10_init_120 rfl rfl ?_
  refine V_new (ci := 7) (N := 7) dX10_init_121 nw_X10_68 rfl rfl (Nat.le_of_ble_eq_true rfl) (Nat.le_of_ble_eq_true rfl) (fun s => hZ.1 _ (Nat.le_refl _) s) (fun s => hZ.2.1 _ (Nat.le_refl _) s) (fun s => hZ.2.2 _ (Nat.le_refl _) s) ?_
  have hZ := hZ.succ
  refine V_dup dX10_init_124 rfl ?_
  refine V_cI0 (M' := M_X7_init) (d' := 1) dX10_init_125 (Or.inr ⟨_, ml_X10_70⟩) kn_X7_init ki_X7_init rfl rfl (by unfold nPar; decide +kernel) (by omega) (by decide) ⟨Nat.le_of_ble_eq_true rfl, Nat.le_of_ble_eq_true rfl⟩ ?_
  refine in_X7_init_59 (by omega) hZ (fun hZ => ⟨rfl, ?_⟩)
  refine V_putF dX10_init_128 fl_X10_71 (by first | exact Or.inr ⟨rfl, rfl⟩ | exact Or.inl rfl) (by first | exact Or.inl ⟨_, rfl⟩ | exact Or.inr ⟨_, rfl⟩) ⟨Nat.le_of_ble_eq_true rfl, rfl⟩ ?_
  have hZ := hZ.put (k := 0) (s := 13) (v := some 59) (Nat.le_of_ble_eq_true rfl)
  refine V_aload_n dX10_init_131 rfl rfl ?_
  refine V_new (ci := 8) (N := 9) dX10_init_132 nw_X10_75 rfl rfl (Nat.le_of_ble_eq_true rfl) (Nat.le_of_ble_eq_true rfl) (fun s => hZ.1 _ (Nat.le_refl _) s) (fun s => hZ.2.1 _ (Nat.le_refl _) s) (fun s => hZ.2.2 _ (Nat.le_refl _) s) ?_
  have hZ := hZ.succ
  refine V_dup dX10_init_135 rfl ?_
  refine V_cI0 (M' := M_X8_init) (d' := 1) dX10_init_136 (Or.inr ⟨_, ml_X10_77⟩) kn_X8_init ki_X8_init rfl rfl (by unfold nPar; decide +kernel) (by omega) (by decide) ⟨Nat.le_of_ble_eq_true rfl, Nat.le_of_ble_eq_true rfl⟩ ?_
  refine in_X8_init_64 (by omega) hZ (fun hZ => ⟨rfl, ?_⟩)
  refine V_putF dX10_init_139 fl_X10_78 (by first | exact Or.inr ⟨rfl, rfl⟩ | exact Or.inl rfl) (by first | exact Or.inl ⟨_, rfl⟩ | exact Or.inr ⟨_, rfl⟩) ⟨Nat.le_of_ble_eq_true rfl, rfl⟩ ?_
  have hZ := hZ.put (k := 0) (s := 14) (v := some 64) (Nat.le_of_ble_eq_true rfl)
  refine V_cong RA_ok ?_
  clear hZ
  have hB0 : KB K0 := KB_K0
  refine V_aload_n dX10_init_142 rfl rfl ?_
  refine V_getR dX10_init_143 fl_X10_23 (by first | assumption | exact ⟨by decide, rfl⟩) (by first | assumption | rfl) ?_
  refine V_cV0v (M' := M_X3_clear) (d' := 2) dX10_init_146 (Or.inl ml_X10_82) kb_X3_clear (by first | assumption | exact ⟨by decide, rfl⟩) (by first | decide | omega) (by simp [Value.category]) ⟨by decide, by decide⟩ ?_
  refine se_coClear (Or.inl rfl) (fun I1 f1 hX1 => ⟨rfl, ?_⟩)
  refine V_aload_n dX10_init_149 rfl rfl ?_
  refine V_getR dX10_init_150 fl_X10_23 (by first | assumption | exact ⟨by decide, rfl⟩) (by first | assumption | rfl) ?_
  refine V_bipush (v := 50) dX10_init_153 (by decide) (V_iconst (v := 0) dX10_init_155 (by decide) ?_)
  refine V_cV2i (M' := M_X3_addPlayer) (d' := 1) dX10_init_156 (Or.inl ml_X10_85) kb_X3_addPlayer (by first | assumption | exact ⟨by decide, rfl⟩) (by first | decide | omega) (by simp [Value.category]) ⟨by decide, by decide⟩ ?_
  refine se_addPlayer (a := 50) (b := 0) (Or.inl rfl) hB0 hX1 (by decide) (by decide) (fun z => absurd (by decide) z) (fun z I2 f2 hX2 => ⟨_, rfl, ?_⟩)
  have hB1 : KB (aPl K0 50 0) := KB_aPl hB0 z
  refine V_pop dX10_init_159 rfl (V_aload_n dX10_init_160 rfl rfl ?_)
  refine V_getR dX10_init_161 fl_X10_23 (by first | assumption | exact ⟨by decide, rfl⟩) (by first | assumption | rfl) ?_
  refine V_bipush (v := 50) dX10_init_164 (by decide) (V_iconst (v := 0) dX10_init_166 (by decide) (V_bipush (v := 10) dX10_init_167 (by decide) (V_iconst (v := 0) dX10_init_169 (by decide) ?_)))
  refine V_cV4i (M' := M_X3_addPart) (d' := 1) dX10_init_170 (Or.inl ml_X10_89) kb_X3_addPart (by first | assumption | exact ⟨by decide, rfl⟩) (by first | decide | omega) (by simp [Value.category]) ⟨by decide, by decide⟩ ?_
  refine se_addPart (a := 50) (b := 0) (f := 10) (d := 0) (Or.inl rfl) hB1 hX2 (by decide) (by decide) (by decide) (by decide) (fun z => absurd (by decide) z) (fun z I3 f3 hX3 => ⟨_, rfl, ?_⟩)
  have hB2 : KB (aPa (aPl K0 50 0) 50 0 10 0) := KB_aPa hB1 (by decide) z
  refine V_pop dX10_init_173 rfl (V_aload_n dX10_init_174 rfl rfl ?_)
  refine V_getR dX10_init_175 fl_X10_23 (by first | assumption | exact ⟨by decide, rfl⟩) (by first | assumption | rfl) ?_
  refine V_iconst (v := 0) dX10_init_178 (by decide) (V_iconst (v := 0) dX10_init_179 (by decide) ?_)
  refine V_cV2i (M' := M_X3_giveOwn) (d' := 2) dX10_init_180 (Or.inl ml_X10_93) kb_X3_giveOwn (by first | assumption | exact ⟨by decide, rfl⟩) (by first | decide | omega) (by simp [Value.category]) ⟨by decide, by decide⟩ ?_
  refine se_giveOwn (a := 0) (b := 0) (Or.inl rfl) hB2 hX3 (by decide) (by decide) (fun z => absurd (by decide) z) (fun z I4 f4 hX4 => ⟨_, rfl, ?_⟩)
  have hB3 : KB KI := KB_aOw hB2 z
  refine V_pop dX10_init_183 rfl (V_aload_n dX10_init_184 rfl rfl ?_)
  refine V_getR dX10_init_185 fl_X10_23 (by first | assumption | exact ⟨by decide, rfl⟩) (by first | assumption | rfl) ?_
  refine V_cV0v (M' := M_X3_settle) (d' := 3) dX10_init_188 (Or.inl ml_X10_96) kb_X3_settle (by first | assumption | exact ⟨by decide, rfl⟩) (by first | decide | omega) (by simp [Value.category]) ⟨by decide, by decide⟩ ?_
  refine se_settle (Or.inl rfl) hB3 hX4 (fun I5 f5 hS5 => ⟨rfl, ?_⟩)
  refine V_aload_n dX10_init_191 rfl rfl ?_
  refine V_cV0v (M' := M_X10_startAnew) (d' := 3) dX10_init_192 (Or.inl ml_X10_99) kb_X10_startAnew (by first | assumption | exact ⟨by decide, rfl⟩) (by first | decide | omega) (by simp [Value.category]) ⟨by decide, by decide⟩ ?_
  refine se_startAnew (K := KI) (D1 := D0) (D2 := D0) (by omega) hB3.1.1 (fun I6 f6 hD6 hC6 => ⟨rfl, ?_⟩)
  refine V_return dX10_init_195 rfl rfl (by decide) (by decide) ?_
  have hz : ∀ x y, (x < 4 ∨ 17 < x) → I5 x y = 0 := fun x y h => by rw [f5 x y (by omega) (by omega), f4 x y (by omega), f3 x y (by omega), f2 x y (by omega), f1 x y (by omega)]
  refine Kk I6 ⟨4, 18, none, none, none, Or.inl ⟨rfl, rfl⟩, rfl, ?_, ?_, ⟨⟨Nat.zero_le _, fun j hj => absurd hj (by show ¬ j < 0; omega)⟩, ?_⟩, hD6, hC6⟩ (fun x y hx => ?_)
  · exact (hX4.of (fun a b p q => f5 a b (by omega) (by omega))).of (fun a b p q => f6 a b (by omega) (by omega) (by omega) (by omega) (by omega) (by omega))
  · exact hS5.of (fun b => ⟨f6 _ _ (by omega) (by omega) (by omega) (by omega) (by omega) (by omega), f6 _ _ (by omega) (by omega) (by omega) (by omega) (by omega) (by omega)⟩)
  · rw [f6 _ _ (by omega) (by omega) (by omega) (by omega) (by omega) (by omega), hz _ _ (by omega)]; rfl
  · rw [f6 _ _ (by omega) (by omega) (by omega) (by omega) (by omega) (by omega), hz _ _ (by omega)]
theorem KB_KI : KB KI := by
  have h1 : KB (aPl K0 50 0) := KB_aPl KB_K0 (by decide)
  have h2 : KB (aPa (aPl K0 50 0) 50 0 10 0) := KB_aPa h1 (by decide) (by decide)
  exact KB_aOw h2 (by decide)
theorem in_X11 {d : Nat} (hd : 6 ≤ d) {I : TI} (h0 : ∀ x y, 70 ≤ x → I x y = 0) (Kk : ∀ I', MS (fun _ => 0) 0 KI D0 D0 D0 0 (fun _ => 0) I' → (∀ x y, x < 70 → I' x y = I x y) → Post none NC I' (fun _ _ => 0) (RR 4 18 none none none)) : Cal E d M_X11_init [.ref 70] 71 I (fun _ _ => 0) R1 Post := by
  have hZ : Z 71 I (fun _ _ => (0 : Int64)) R1 := ⟨fun x hx s => h0 x s (by omega), fun _ _ _ => rfl, fun x hx s => if_neg (by omega)⟩
  refine Cal_of kn_X11_init rfl (Nat.le_of_ble_eq_true rfl) ?_
  refine V_aload_n dX11_init_0 rfl rfl ?_
  refine V_objInit dX11_init_1 oi_X11_1 (by omega) (by decide) ?_
  refine V_aload_n dX11_init_4 rfl rfl ?_
  refine V_sipush (v := 400) dX11_init_5 (by decide) ?_
  refine V_newarray (kd := 0) (len := 400) dX11_init_8 (Or.inl ⟨rfl, rfl⟩) rfl (by decide) (by decide) (Nat.le_of_ble_eq_true rfl) (Nat.le_of_ble_eq_true rfl) (Nat.le_of_ble_eq_true rfl) (fun s => hZ.1 _ (Nat.le_refl _) s) (fun s => hZ.2.1 _ (Nat.le_refl _) s) ?_
  have hZ := hZ.succ
  refine V_putF dX11_init_10 fl_X11_7 (by first | exact Or.inr ⟨rfl, rfl⟩ | exact Or.inl rfl) (by first | exact Or.inl ⟨_, rfl⟩ | exact Or.inr ⟨_, rfl⟩) ⟨Nat.le_of_ble_eq_true rfl, rfl⟩ ?_
  have hZ := hZ.put (k := 70) (s := 1) (v := some 71) (Nat.le_of_ble_eq_true rfl)
  refine V_aload_n dX11_init_13 rfl rfl ?_
  refine V_iconst (v := 2) dX11_init_14 (by decide) ?_
  refine V_newarray (kd := 0) (len := 2) dX11_init_15 (Or.inl ⟨rfl, rfl⟩) rfl (by decide) (by decide) (Nat.le_of_ble_eq_true rfl) (Nat.le_of_ble_eq_true rfl) (Nat.le_of_ble_eq_true rfl) (fun s => hZ.1 _ (Nat.le_refl _) s) (fun s => hZ.2.1 _ (Nat.le_refl _) s) ?_
  have hZ := hZ.succ
  refine V_putF dX11_init_17 fl_X11_13 (by first | exact Or.inr ⟨rfl, rfl⟩ | exact Or.inl rfl) (by first | exact Or.inl ⟨_, rfl⟩ | exact Or.inr ⟨_, rfl⟩) ⟨Nat.le_of_ble_eq_true rfl, rfl⟩ ?_
  have hZ := hZ.put (k := 70) (s := 2) (v := some 72) (Nat.le_of_ble_eq_true rfl)
  refine V_aload_n dX11_init_20 rfl rfl ?_
  refine V_bipush (v := 20) dX11_init_21 (by decide) ?_
  refine V_newarray (kd := 0) (len := 20) dX11_init_23 (Or.inl ⟨rfl, rfl⟩) rfl (by decide) (by decide) (Nat.le_of_ble_eq_true rfl) (Nat.le_of_ble_eq_true rfl) (Nat.le_of_ble_eq_true rfl) (fun s => hZ.1 _ (Nat.le_refl _) s) (fun s => hZ.2.1 _ (Nat.le_refl _) s) ?_
  have hZ := hZ.succ
  refine V_putF dX11_init_25 fl_X11_16 (by first | exact Or.inr ⟨rfl, rfl⟩ | exact Or.inl rfl) (by first | exact Or.inl ⟨_, rfl⟩ | exact Or.inr ⟨_, rfl⟩) ⟨Nat.le_of_ble_eq_true rfl, rfl⟩ ?_
  have hZ := hZ.put (k := 70) (s := 3) (v := some 73) (Nat.le_of_ble_eq_true rfl)
  refine V_aload_n dX11_init_28 rfl rfl ?_
  refine V_bipush (v := 20) dX11_init_29 (by decide) ?_
  refine V_newarray (kd := 0) (len := 20) dX11_init_31 (Or.inl ⟨rfl, rfl⟩) rfl (by decide) (by decide) (Nat.le_of_ble_eq_true rfl) (Nat.le_of_ble_eq_true rfl) (Nat.le_of_ble_eq_true rfl) (fun s => hZ.1 _ (Nat.le_refl _) s) (fun s => hZ.2.1 _ (Nat.le_refl _) s) ?_
  have hZ := hZ.succ
  refine V_putF dX11_init_33 fl_X11_19 (by first | exact Or.inr ⟨rfl, rfl⟩ | exact Or.inl rfl) (by first | exact Or.inl ⟨_, rfl⟩ | exact Or.inr ⟨_, rfl⟩) ⟨Nat.le_of_ble_eq_true rfl, rfl⟩ ?_
  have hZ := hZ.put (k := 70) (s := 4) (v := some 74) (Nat.le_of_ble_eq_true rfl)
  refine V_aload_n dX11_init_36 rfl rfl ?_
  refine V_iconst (v := 2) dX11_init_37 (by decide) ?_
  refine V_newarray (kd := 0) (len := 2) dX11_init_38 (Or.inl ⟨rfl, rfl⟩) rfl (by decide) (by decide) (Nat.le_of_ble_eq_true rfl) (Nat.le_of_ble_eq_true rfl) (Nat.le_of_ble_eq_true rfl) (fun s => hZ.1 _ (Nat.le_refl _) s) (fun s => hZ.2.1 _ (Nat.le_refl _) s) ?_
  have hZ := hZ.succ
  refine V_putF dX11_init_40 fl_X11_22 (by first | exact Or.inr ⟨rfl, rfl⟩ | exact Or.inl rfl) (by first | exact Or.inl ⟨_, rfl⟩ | exact Or.inr ⟨_, rfl⟩) ⟨Nat.le_of_ble_eq_true rfl, rfl⟩ ?_
  have hZ := hZ.put (k := 70) (s := 5) (v := some 75) (Nat.le_of_ble_eq_true rfl)
  refine V_aload_n dX11_init_43 rfl rfl ?_
  refine V_bipush (v := 16) dX11_init_44 (by decide) ?_
  refine V_newarray (kd := 0) (len := 16) dX11_init_46 (Or.inl ⟨rfl, rfl⟩) rfl (by decide) (by decide) (Nat.le_of_ble_eq_true rfl) (Nat.le_of_ble_eq_true rfl) (Nat.le_of_ble_eq_true rfl) (fun s => hZ.1 _ (Nat.le_refl _) s) (fun s => hZ.2.1 _ (Nat.le_refl _) s) ?_
  have hZ := hZ.succ
  refine V_putF dX11_init_48 fl_X11_25 (by first | exact Or.inr ⟨rfl, rfl⟩ | exact Or.inl rfl) (by first | exact Or.inl ⟨_, rfl⟩ | exact Or.inr ⟨_, rfl⟩) ⟨Nat.le_of_ble_eq_true rfl, rfl⟩ ?_
  have hZ := hZ.put (k := 70) (s := 6) (v := some 76) (Nat.le_of_ble_eq_true rfl)
  refine V_aload_n dX11_init_51 rfl rfl ?_
  refine V_bipush (v := 16) dX11_init_52 (by decide) ?_
  refine V_newarray (kd := 0) (len := 16) dX11_init_54 (Or.inl ⟨rfl, rfl⟩) rfl (by decide) (by decide) (Nat.le_of_ble_eq_true rfl) (Nat.le_of_ble_eq_true rfl) (Nat.le_of_ble_eq_true rfl) (fun s => hZ.1 _ (Nat.le_refl _) s) (fun s => hZ.2.1 _ (Nat.le_refl _) s) ?_
  have hZ := hZ.succ
  refine V_putF dX11_init_56 fl_X11_28 (by first | exact Or.inr ⟨rfl, rfl⟩ | exact Or.inl rfl) (by first | exact Or.inl ⟨_, rfl⟩ | exact Or.inr ⟨_, rfl⟩) ⟨Nat.le_of_ble_eq_true rfl, rfl⟩ ?_
  have hZ := hZ.put (k := 70) (s := 7) (v := some 77) (Nat.le_of_ble_eq_true rfl)
  refine V_aload_n dX11_init_59 rfl rfl ?_
  refine V_bipush (v := 16) dX11_init_60 (by decide) ?_
  refine V_newarray (kd := 0) (len := 16) dX11_init_62 (Or.inl ⟨rfl, rfl⟩) rfl (by decide) (by decide) (Nat.le_of_ble_eq_true rfl) (Nat.le_of_ble_eq_true rfl) (Nat.le_of_ble_eq_true rfl) (fun s => hZ.1 _ (Nat.le_refl _) s) (fun s => hZ.2.1 _ (Nat.le_refl _) s) ?_
  have hZ := hZ.succ
  refine V_putF dX11_init_64 fl_X11_31 (by first | exact Or.inr ⟨rfl, rfl⟩ | exact Or.inl rfl) (by first | exact Or.inl ⟨_, rfl⟩ | exact Or.inr ⟨_, rfl⟩) ⟨Nat.le_of_ble_eq_true rfl, rfl⟩ ?_
  have hZ := hZ.put (k := 70) (s := 8) (v := some 78) (Nat.le_of_ble_eq_true rfl)
  refine V_aload_n dX11_init_67 rfl rfl ?_
  refine V_bipush (v := 16) dX11_init_68 (by decide) ?_
  refine V_newarray (kd := 0) (len := 16) dX11_init_70 (Or.inl ⟨rfl, rfl⟩) rfl (by decide) (by decide) (Nat.le_of_ble_eq_true rfl) (Nat.le_of_ble_eq_true rfl) (Nat.le_of_ble_eq_true rfl) (fun s => hZ.1 _ (Nat.le_refl _) s) (fun s => hZ.2.1 _ (Nat.le_refl _) s) ?_
  have hZ := hZ.succ
  refine V_putF dX11_init_72 fl_X11_34 (by first | exact Or.inr ⟨rfl, rfl⟩ | exact Or.inl rfl) (by first | exact Or.inl ⟨_, rfl⟩ | exact Or.inr ⟨_, rfl⟩) ⟨Nat.le_of_ble_eq_true rfl, rfl⟩ ?_
  have hZ := hZ.put (k := 70) (s := 9) (v := some 79) (Nat.le_of_ble_eq_true rfl)
  refine V_aload_n dX11_init_75 rfl rfl ?_
  refine V_bipush (v := 16) dX11_init_76 (by decide) ?_
  refine V_newarray (kd := 0) (len := 16) dX11_init_78 (Or.inl ⟨rfl, rfl⟩) rfl (by decide) (by decide) (Nat.le_of_ble_eq_true rfl) (Nat.le_of_ble_eq_true rfl) (Nat.le_of_ble_eq_true rfl) (fun s => hZ.1 _ (Nat.le_refl _) s) (fun s => hZ.2.1 _ (Nat.le_refl _) s) ?_
  have hZ := hZ.succ
  refine V_putF dX11_init_80 fl_X11_37 (by first | exact Or.inr ⟨rfl, rfl⟩ | exact Or.inl rfl) (by first | exact Or.inl ⟨_, rfl⟩ | exact Or.inr ⟨_, rfl⟩) ⟨Nat.le_of_ble_eq_true rfl, rfl⟩ ?_
  have hZ := hZ.put (k := 70) (s := 10) (v := some 80) (Nat.le_of_ble_eq_true rfl)
  refine V_aload_n dX11_init_83 rfl rfl ?_
  refine V_iconst (v := 2) dX11_init_84 (by decide) ?_
  refine V_newarray (kd := 0) (len := 2) dX11_init_85 (Or.inl ⟨rfl, rfl⟩) rfl (by decide) (by decide) (Nat.le_of_ble_eq_true rfl) (Nat.le_of_ble_eq_true rfl) (Nat.le_of_ble_eq_true rfl) (fun s => hZ.1 _ (Nat.le_refl _) s) (fun s => hZ.2.1 _ (Nat.le_refl _) s) ?_
  have hZ := hZ.succ
  refine V_putF dX11_init_87 fl_X11_40 (by first | exact Or.inr ⟨rfl, rfl⟩ | exact Or.inl rfl) (by first | exact Or.inl ⟨_, rfl⟩ | exact Or.inr ⟨_, rfl⟩) ⟨Nat.le_of_ble_eq_true rfl, rfl⟩ ?_
  have hZ := hZ.put (k := 70) (s := 11) (v := some 81) (Nat.le_of_ble_eq_true rfl)
  refine V_aload_n dX11_init_90 rfl rfl ?_
  refine V_bipush (v := 20) dX11_init_91 (by decide) ?_
  refine V_newarray (kd := 0) (len := 20) dX11_init_93 (Or.inl ⟨rfl, rfl⟩) rfl (by decide) (by decide) (Nat.le_of_ble_eq_true rfl) (Nat.le_of_ble_eq_true rfl) (Nat.le_of_ble_eq_true rfl) (fun s => hZ.1 _ (Nat.le_refl _) s) (fun s => hZ.2.1 _ (Nat.le_refl _) s) ?_
  have hZ := hZ.succ
  refine V_putF dX11_init_95 fl_X11_43 (by first | exact Or.inr ⟨rfl, rfl⟩ | exact Or.inl rfl) (by first | exact Or.inl ⟨_, rfl⟩ | exact Or.inr ⟨_, rfl⟩) ⟨Nat.le_of_ble_eq_true rfl, rfl⟩ ?_
  have hZ := hZ.put (k := 70) (s := 12) (v := some 82) (Nat.le_of_ble_eq_true rfl)
  refine V_aload_n dX11_init_98 rfl rfl ?_
  refine V_bipush (v := 20) dX11_init_99 (by decide) ?_
  refine V_newarray (kd := 0) (len := 20) dX11_init_101 (Or.inl ⟨rfl, rfl⟩) rfl (by decide) (by decide) (Nat.le_of_ble_eq_true rfl) (Nat.le_of_ble_eq_true rfl) (Nat.le_of_ble_eq_true rfl) (fun s => hZ.1 _ (Nat.le_refl _) s) (fun s => hZ.2.1 _ (Nat.le_refl _) s) ?_
  have hZ := hZ.succ
  refine V_putF dX11_init_103 fl_X11_46 (by first | exact Or.inr ⟨rfl, rfl⟩ | exact Or.inl rfl) (by first | exact Or.inl ⟨_, rfl⟩ | exact Or.inr ⟨_, rfl⟩) ⟨Nat.le_of_ble_eq_true rfl, rfl⟩ ?_
  have hZ := hZ.put (k := 70) (s := 13) (v := some 83) (Nat.le_of_ble_eq_true rfl)
  refine V_aload_n dX11_init_106 rfl rfl ?_
  refine V_iconst (v := 2) dX11_init_107 (by decide) ?_
  refine V_newarray (kd := 0) (len := 2) dX11_init_108 (Or.inl ⟨rfl, rfl⟩) rfl (by decide) (by decide) (Nat.le_of_ble_eq_true rfl) (Nat.le_of_ble_eq_true rfl) (Nat.le_of_ble_eq_true rfl) (fun s => hZ.1 _ (Nat.le_refl _) s) (fun s => hZ.2.1 _ (Nat.le_refl _) s) ?_
  have hZ := hZ.succ
  refine V_putF dX11_init_110 fl_X11_49 (by first | exact Or.inr ⟨rfl, rfl⟩ | exact Or.inl rfl) (by first | exact Or.inl ⟨_, rfl⟩ | exact Or.inr ⟨_, rfl⟩) ⟨Nat.le_of_ble_eq_true rfl, rfl⟩ ?_
  have hZ := hZ.put (k := 70) (s := 14) (v := some 84) (Nat.le_of_ble_eq_true rfl)
  refine V_aload_n dX11_init_113 rfl rfl ?_
  refine V_bipush (v := 20) dX11_init_114 (by decide) ?_
  refine V_newarray (kd := 0) (len := 20) dX11_init_116 (Or.inl ⟨rfl, rfl⟩) rfl (by decide) (by decide) (Nat.le_of_ble_eq_true rfl) (Nat.le_of_ble_eq_true rfl) (Nat.le_of_ble_eq_true rfl) (fun s => hZ.1 _ (Nat.le_refl _) s) (fun s => hZ.2.1 _ (Nat.le_refl _) s) ?_
  have hZ := hZ.succ
  refine V_putF dX11_init_118 fl_X11_52 (by first | exact Or.inr ⟨rfl, rfl⟩ | exact Or.inl rfl) (by first | exact Or.inl ⟨_, rfl⟩ | exact Or.inr ⟨_, rfl⟩) ⟨Nat.le_of_ble_eq_true rfl, rfl⟩ ?_
  have hZ := hZ.put (k := 70) (s := 15) (v := some 85) (Nat.le_of_ble_eq_true rfl)
  refine V_aload_n dX11_init_121 rfl rfl ?_
  refine V_sipush (v := 200) dX11_init_122 (by decide) ?_
  refine V_newarray (kd := 0) (len := 200) dX11_init_125 (Or.inl ⟨rfl, rfl⟩) rfl (by decide) (by decide) (Nat.le_of_ble_eq_true rfl) (Nat.le_of_ble_eq_true rfl) (Nat.le_of_ble_eq_true rfl) (fun s => hZ.1 _ (Nat.le_refl _) s) (fun s => hZ.2.1 _ (Nat.le_refl _) s) ?_
  have hZ := hZ.succ
  refine V_putF dX11_init_127 fl_X11_55 (by first | exact Or.inr ⟨rfl, rfl⟩ | exact Or.inl rfl) (by first | exact Or.inl ⟨_, rfl⟩ | exact Or.inr ⟨_, rfl⟩) ⟨Nat.le_of_ble_eq_true rfl, rfl⟩ ?_
  have hZ := hZ.put (k := 70) (s := 16) (v := some 86) (Nat.le_of_ble_eq_true rfl)
  refine V_aload_n dX11_init_130 rfl rfl ?_
  refine V_bipush (v := 10) dX11_init_131 (by decide) ?_
  refine V_newarray (kd := 0) (len := 10) dX11_init_133 (Or.inl ⟨rfl, rfl⟩) rfl (by decide) (by decide) (Nat.le_of_ble_eq_true rfl) (Nat.le_of_ble_eq_true rfl) (Nat.le_of_ble_eq_true rfl) (fun s => hZ.1 _ (Nat.le_refl _) s) (fun s => hZ.2.1 _ (Nat.le_refl _) s) ?_
  have hZ := hZ.succ
  refine V_putF dX11_init_135 fl_X11_58 (by first | exact Or.inr ⟨rfl, rfl⟩ | exact Or.inl rfl) (by first | exact Or.inl ⟨_, rfl⟩ | exact Or.inr ⟨_, rfl⟩) ⟨Nat.le_of_ble_eq_true rfl, rfl⟩ ?_
  have hZ := hZ.put (k := 70) (s := 17) (v := some 87) (Nat.le_of_ble_eq_true rfl)
  refine V_aload_n dX11_init_138 rfl rfl ?_
  refine V_sipush (v := 240) dX11_init_139 (by decide) ?_
  refine V_newarray (kd := 0) (len := 240) dX11_init_142 (Or.inl ⟨rfl, rfl⟩) rfl (by decide) (by decide) (Nat.le_of_ble_eq_true rfl) (Nat.le_of_ble_eq_true rfl) (Nat.le_of_ble_eq_true rfl) (fun s => hZ.1 _ (Nat.le_refl _) s) (fun s => hZ.2.1 _ (Nat.le_refl _) s) ?_
  have hZ := hZ.succ
  refine V_putF dX11_init_144 fl_X11_61 (by first | exact Or.inr ⟨rfl, rfl⟩ | exact Or.inl rfl) (by first | exact Or.inl ⟨_, rfl⟩ | exact Or.inr ⟨_, rfl⟩) ⟨Nat.le_of_ble_eq_true rfl, rfl⟩ ?_
  have hZ := hZ.put (k := 70) (s := 18) (v := some 88) (Nat.le_of_ble_eq_true rfl)
  refine V_aload_n dX11_init_147 rfl rfl ?_
  refine V_iconst (v := 3) dX11_init_148 (by decide) ?_
  refine V_newarray (kd := 0) (len := 3) dX11_init_149 (Or.inl ⟨rfl, rfl⟩) rfl (by decide) (by decide) (Nat.le_of_ble_eq_true rfl) (Nat.le_of_ble_eq_true rfl) (Nat.le_of_ble_eq_true rfl) (fun s => hZ.1 _ (Nat.le_refl _) s) (fun s => hZ.2.1 _ (Nat.le_refl _) s) ?_
  have hZ := hZ.succ
  refine V_putF dX11_init_151 fl_X11_64 (by first | exact Or.inr ⟨rfl, rfl⟩ | exact Or.inl rfl) (by first | exact Or.inl ⟨_, rfl⟩ | exact Or.inr ⟨_, rfl⟩) ⟨Nat.le_of_ble_eq_true rfl, rfl⟩ ?_
  have hZ := hZ.put (k := 70) (s := 19) (v := some 89) (Nat.le_of_ble_eq_true rfl)
  refine V_aload_n dX11_init_154 rfl rfl ?_
  refine V_bipush (v := 30) dX11_init_155 (by decide) ?_
  refine V_newarray (kd := 0) (len := 30) dX11_init_157 (Or.inl ⟨rfl, rfl⟩) rfl (by decide) (by decide) (Nat.le_of_ble_eq_true rfl) (Nat.le_of_ble_eq_true rfl) (Nat.le_of_ble_eq_true rfl) (fun s => hZ.1 _ (Nat.le_refl _) s) (fun s => hZ.2.1 _ (Nat.le_refl _) s) ?_
  have hZ := hZ.succ
  refine V_putF dX11_init_159 fl_X11_67 (by first | exact Or.inr ⟨rfl, rfl⟩ | exact Or.inl rfl) (by first | exact Or.inl ⟨_, rfl⟩ | exact Or.inr ⟨_, rfl⟩) ⟨Nat.le_of_ble_eq_true rfl, rfl⟩ ?_
  have hZ := hZ.put (k := 70) (s := 20) (v := some 90) (Nat.le_of_ble_eq_true rfl)
  refine V_aload_n dX11_init_162 rfl rfl ?_
  refine V_bipush (v := 10) dX11_init_163 (by decide) ?_
  refine V_newarray (kd := 0) (len := 10) dX11_init_165 (Or.inl ⟨rfl, rfl⟩) rfl (by decide) (by decide) (Nat.le_of_ble_eq_true rfl) (Nat.le_of_ble_eq_true rfl) (Nat.le_of_ble_eq_true rfl) (fun s => hZ.1 _ (Nat.le_refl _) s) (fun s => hZ.2.1 _ (Nat.le_refl _) s) ?_
  have hZ := hZ.succ
  refine V_putF dX11_init_167 fl_X11_70 (by first | exact Or.inr ⟨rfl, rfl⟩ | exact Or.inl rfl) (by first | exact Or.inl ⟨_, rfl⟩ | exact Or.inr ⟨_, rfl⟩) ⟨Nat.le_of_ble_eq_true rfl, rfl⟩ ?_
  have hZ := hZ.put (k := 70) (s := 21) (v := some 91) (Nat.le_of_ble_eq_true rfl)
  refine V_aload_n dX11_init_170 rfl rfl ?_
  refine V_iconst (v := 4) dX11_init_171 (by decide) ?_
  refine V_newarray (kd := 0) (len := 4) dX11_init_172 (Or.inl ⟨rfl, rfl⟩) rfl (by decide) (by decide) (Nat.le_of_ble_eq_true rfl) (Nat.le_of_ble_eq_true rfl) (Nat.le_of_ble_eq_true rfl) (fun s => hZ.1 _ (Nat.le_refl _) s) (fun s => hZ.2.1 _ (Nat.le_refl _) s) ?_
  have hZ := hZ.succ
  refine V_putF dX11_init_174 fl_X11_73 (by first | exact Or.inr ⟨rfl, rfl⟩ | exact Or.inl rfl) (by first | exact Or.inl ⟨_, rfl⟩ | exact Or.inr ⟨_, rfl⟩) ⟨Nat.le_of_ble_eq_true rfl, rfl⟩ ?_
  have hZ := hZ.put (k := 70) (s := 24) (v := some 92) (Nat.le_of_ble_eq_true rfl)
  refine V_aload_n dX11_init_177 rfl rfl ?_
  refine V_bipush (v := 10) dX11_init_178 (by decide) ?_
  refine V_newarray (kd := 0) (len := 10) dX11_init_180 (Or.inl ⟨rfl, rfl⟩) rfl (by decide) (by decide) (Nat.le_of_ble_eq_true rfl) (Nat.le_of_ble_eq_true rfl) (Nat.le_of_ble_eq_true rfl) (fun s => hZ.1 _ (Nat.le_refl _) s) (fun s => hZ.2.1 _ (Nat.le_refl _) s) ?_
  have hZ := hZ.succ
  refine V_putF dX11_init_182 fl_X11_76 (by first | exact Or.inr ⟨rfl, rfl⟩ | exact Or.inl rfl) (by first | exact Or.inl ⟨_, rfl⟩ | exact Or.inr ⟨_, rfl⟩) ⟨Nat.le_of_ble_eq_true rfl, rfl⟩ ?_
  have hZ := hZ.put (k := 70) (s := 25) (v := some 93) (Nat.le_of_ble_eq_true rfl)
  refine V_aload_n dX11_init_185 rfl rfl ?_
  refine V_bipush (v := 8) dX11_init_186 (by decide) ?_
  refine V_newarray (kd := 0) (len := 8) dX11_init_188 (Or.inl ⟨rfl, rfl⟩) rfl (by decide) (by decide) (Nat.le_of_ble_eq_true rfl) (Nat.le_of_ble_eq_true rfl) (Nat.le_of_ble_eq_true rfl) (fun s => hZ.1 _ (Nat.le_refl _) s) (fun s => hZ.2.1 _ (Nat.le_refl _) s) ?_
  have hZ := hZ.succ
  refine V_putF dX11_init_190 fl_X11_79 (by first | exact Or.inr ⟨rfl, rfl⟩ | exact Or.inl rfl) (by first | exact Or.inl ⟨_, rfl⟩ | exact Or.inr ⟨_, rfl⟩) ⟨Nat.le_of_ble_eq_true rfl, rfl⟩ ?_
  have hZ := hZ.put (k := 70) (s := 26) (v := some 94) (Nat.le_of_ble_eq_true rfl)
  refine V_aload_n dX11_init_193 rfl rfl ?_
  refine V_bipush (v := 8) dX11_init_194 (by decide) ?_
  refine V_newarray (kd := 0) (len := 8) dX11_init_196 (Or.inl ⟨rfl, rfl⟩) rfl (by decide) (by decide) (Nat.le_of_ble_eq_true rfl) (Nat.le_of_ble_eq_true rfl) (Nat.le_of_ble_eq_true rfl) (fun s => hZ.1 _ (Nat.le_refl _) s) (fun s => hZ.2.1 _ (Nat.le_refl _) s) ?_
  have hZ := hZ.succ
  refine V_putF dX11_init_198 fl_X11_82 (by first | exact Or.inr ⟨rfl, rfl⟩ | exact Or.inl rfl) (by first | exact Or.inl ⟨_, rfl⟩ | exact Or.inr ⟨_, rfl⟩) ⟨Nat.le_of_ble_eq_true rfl, rfl⟩ ?_
  have hZ := hZ.put (k := 70) (s := 27) (v := some 95) (Nat.le_of_ble_eq_true rfl)
  refine V_aload_n dX11_init_201 rfl rfl ?_
  refine V_bipush (v := 8) dX11_init_202 (by decide) ?_
  refine V_newarray (kd := 0) (len := 8) dX11_init_204 (Or.inl ⟨rfl, rfl⟩) rfl (by decide) (by decide) (Nat.le_of_ble_eq_true rfl) (Nat.le_of_ble_eq_true rfl) (Nat.le_of_ble_eq_true rfl) (fun s => hZ.1 _ (Nat.le_refl _) s) (fun s => hZ.2.1 _ (Nat.le_refl _) s) ?_
  have hZ := hZ.succ
  refine V_putF dX11_init_206 fl_X11_85 (by first | exact Or.inr ⟨rfl, rfl⟩ | exact Or.inl rfl) (by first | exact Or.inl ⟨_, rfl⟩ | exact Or.inr ⟨_, rfl⟩) ⟨Nat.le_of_ble_eq_true rfl, rfl⟩ ?_
  have hZ := hZ.put (k := 70) (s := 28) (v := some 96) (Nat.le_of_ble_eq_true rfl)
  refine V_aload_n dX11_init_209 rfl rfl ?_
  refine V_bipush (v := 10) dX11_init_210 (by decide) ?_
  refine V_newarray (kd := 0) (len := 10) dX11_init_212 (Or.inl ⟨rfl, rfl⟩) rfl (by decide) (by decide) (Nat.le_of_ble_eq_true rfl) (Nat.le_of_ble_eq_true rfl) (Nat.le_of_ble_eq_true rfl) (fun s => hZ.1 _ (Nat.le_refl _) s) (fun s => hZ.2.1 _ (Nat.le_refl _) s) ?_
  have hZ := hZ.succ
  refine V_putF dX11_init_214 fl_X11_88 (by first | exact Or.inr ⟨rfl, rfl⟩ | exact Or.inl rfl) (by first | exact Or.inl ⟨_, rfl⟩ | exact Or.inr ⟨_, rfl⟩) ⟨Nat.le_of_ble_eq_true rfl, rfl⟩ ?_
  have hZ := hZ.put (k := 70) (s := 29) (v := some 97) (Nat.le_of_ble_eq_true rfl)
  refine V_aload_n dX11_init_217 rfl rfl ?_
  refine V_bipush (v := 80) dX11_init_218 (by decide) ?_
  refine V_newarray (kd := 0) (len := 80) dX11_init_220 (Or.inl ⟨rfl, rfl⟩) rfl (by decide) (by decide) (Nat.le_of_ble_eq_true rfl) (Nat.le_of_ble_eq_true rfl) (Nat.le_of_ble_eq_true rfl) (fun s => hZ.1 _ (Nat.le_refl _) s) (fun s => hZ.2.1 _ (Nat.le_refl _) s) ?_
  have hZ := hZ.succ
  refine V_putF dX11_init_222 fl_X11_91 (by first | exact Or.inr ⟨rfl, rfl⟩ | exact Or.inl rfl) (by first | exact Or.inl ⟨_, rfl⟩ | exact Or.inr ⟨_, rfl⟩) ⟨Nat.le_of_ble_eq_true rfl, rfl⟩ ?_
  have hZ := hZ.put (k := 70) (s := 33) (v := some 98) (Nat.le_of_ble_eq_true rfl)
  refine V_aload_n dX11_init_225 rfl rfl ?_
  refine V_sipush (v := 8100) dX11_init_226 (by decide) ?_
  refine V_newarray (kd := 0) (len := 8100) dX11_init_229 (Or.inl ⟨rfl, rfl⟩) rfl (by decide) (by decide) (Nat.le_of_ble_eq_true rfl) (Nat.le_of_ble_eq_true rfl) (Nat.le_of_ble_eq_true rfl) (fun s => hZ.1 _ (Nat.le_refl _) s) (fun s => hZ.2.1 _ (Nat.le_refl _) s) ?_
  have hZ := hZ.succ
  refine V_putF dX11_init_231 fl_X11_94 (by first | exact Or.inr ⟨rfl, rfl⟩ | exact Or.inl rfl) (by first | exact Or.inl ⟨_, rfl⟩ | exact Or.inr ⟨_, rfl⟩) ⟨Nat.le_of_ble_eq_true rfl, rfl⟩ ?_
  have hZ := hZ.put (k := 70) (s := 34) (v := some 99) (Nat.le_of_ble_eq_true rfl)
  refine V_aload_n dX11_init_234 rfl rfl ?_
  refine V_sipush (v := 8100) dX11_init_235 (by decide) ?_
  refine V_newarray (kd := 0) (len := 8100) dX11_init_238 (Or.inl ⟨rfl, rfl⟩) rfl (by decide) (by decide) (Nat.le_of_ble_eq_true rfl) (Nat.le_of_ble_eq_true rfl) (Nat.le_of_ble_eq_true rfl) (fun s => hZ.1 _ (Nat.le_refl _) s) (fun s => hZ.2.1 _ (Nat.le_refl _) s) ?_
  have hZ := hZ.succ
  refine V_putF dX11_init_240 fl_X11_97 (by first | exact Or.inr ⟨rfl, rfl⟩ | exact Or.inl rfl) (by first | exact Or.inl ⟨_, rfl⟩ | exact Or.inr ⟨_, rfl⟩) ⟨Nat.le_of_ble_eq_true rfl, rfl⟩ ?_
  have hZ := hZ.put (k := 70) (s := 35) (v := some 100) (Nat.le_of_ble_eq_true rfl)
  refine V_aload_n dX11_init_243 rfl rfl ?_
  refine V_sipush (v := 1024) dX11_init_244 (by decide) ?_
  refine V_newarray (kd := 0) (len := 1024) dX11_init_247 (Or.inl ⟨rfl, rfl⟩) rfl (by decide) (by decide) (Nat.le_of_ble_eq_true rfl) (Nat.le_of_ble_eq_true rfl) (Nat.le_of_ble_eq_true rfl) (fun s => hZ.1 _ (Nat.le_refl _) s) (fun s => hZ.2.1 _ (Nat.le_refl _) s) ?_
  have hZ := hZ.succ
  refine V_putF dX11_init_249 fl_X11_100 (by first | exact Or.inr ⟨rfl, rfl⟩ | exact Or.inl rfl) (by first | exact Or.inl ⟨_, rfl⟩ | exact Or.inr ⟨_, rfl⟩) ⟨Nat.le_of_ble_eq_true rfl, rfl⟩ ?_
  have hZ := hZ.put (k := 70) (s := 36) (v := some 101) (Nat.le_of_ble_eq_true rfl)
  refine V_aload_n dX11_init_252 rfl rfl ?_
  refine V_sipush (v := 1024) dX11_init_253 (by decide) ?_
  refine V_newarray (kd := 0) (len := 1024) dX11_init_256 (Or.inl ⟨rfl, rfl⟩) rfl (by decide) (by decide) (Nat.le_of_ble_eq_true rfl) (Nat.le_of_ble_eq_true rfl) (Nat.le_of_ble_eq_true rfl) (fun s => hZ.1 _ (Nat.le_refl _) s) (fun s => hZ.2.1 _ (Nat.le_refl _) s) ?_
  have hZ := hZ.succ
  refine V_putF dX11_init_258 fl_X11_103 (by first | exact Or.inr ⟨rfl, rfl⟩ | exact Or.inl rfl) (by first | exact Or.inl ⟨_, rfl⟩ | exact Or.inr ⟨_, rfl⟩) ⟨Nat.le_of_ble_eq_true rfl, rfl⟩ ?_
  have hZ := hZ.put (k := 70) (s := 37) (v := some 102) (Nat.le_of_ble_eq_true rfl)
  refine V_aload_n dX11_init_261 rfl rfl ?_
  refine V_sipush (v := 1024) dX11_init_262 (by decide) ?_
  refine V_newarray (kd := 0) (len := 1024) dX11_init_265 (Or.inl ⟨rfl, rfl⟩) rfl (by decide) (by decide) (Nat.le_of_ble_eq_true rfl) (Nat.le_of_ble_eq_true rfl) (Nat.le_of_ble_eq_true rfl) (fun s => hZ.1 _ (Nat.le_refl _) s) (fun s => hZ.2.1 _ (Nat.le_refl _) s) ?_
  have hZ := hZ.succ
  refine V_putF dX11_init_267 fl_X11_106 (by first | exact Or.inr ⟨rfl, rfl⟩ | exact Or.inl rfl) (by first | exact Or.inl ⟨_, rfl⟩ | exact Or.inr ⟨_, rfl⟩) ⟨Nat.le_of_ble_eq_true rfl, rfl⟩ ?_
  have hZ := hZ.put (k := 70) (s := 38) (v := some 103) (Nat.le_of_ble_eq_true rfl)
  refine V_aload_n dX11_init_270 rfl rfl ?_
  refine V_bipush (v := 80) dX11_init_271 (by decide) ?_
  refine V_newarray (kd := 0) (len := 80) dX11_init_273 (Or.inl ⟨rfl, rfl⟩) rfl (by decide) (by decide) (Nat.le_of_ble_eq_true rfl) (Nat.le_of_ble_eq_true rfl) (Nat.le_of_ble_eq_true rfl) (fun s => hZ.1 _ (Nat.le_refl _) s) (fun s => hZ.2.1 _ (Nat.le_refl _) s) ?_
  have hZ := hZ.succ
  refine V_putF dX11_init_275 fl_X11_109 (by first | exact Or.inr ⟨rfl, rfl⟩ | exact Or.inl rfl) (by first | exact Or.inl ⟨_, rfl⟩ | exact Or.inr ⟨_, rfl⟩) ⟨Nat.le_of_ble_eq_true rfl, rfl⟩ ?_
  have hZ := hZ.put (k := 70) (s := 40) (v := some 104) (Nat.le_of_ble_eq_true rfl)
  refine V_aload_n dX11_init_278 rfl rfl ?_
  refine V_bipush (v := 10) dX11_init_279 (by decide) ?_
  refine V_newarray (kd := 0) (len := 10) dX11_init_281 (Or.inl ⟨rfl, rfl⟩) rfl (by decide) (by decide) (Nat.le_of_ble_eq_true rfl) (Nat.le_of_ble_eq_true rfl) (Nat.le_of_ble_eq_true rfl) (fun s => hZ.1 _ (Nat.le_refl _) s) (fun s => hZ.2.1 _ (Nat.le_refl _) s) ?_
  have hZ := hZ.succ
  refine V_putF dX11_init_283 fl_X11_112 (by first | exact Or.inr ⟨rfl, rfl⟩ | exact Or.inl rfl) (by first | exact Or.inl ⟨_, rfl⟩ | exact Or.inr ⟨_, rfl⟩) ⟨Nat.le_of_ble_eq_true rfl, rfl⟩ ?_
  have hZ := hZ.put (k := 70) (s := 41) (v := some 105) (Nat.le_of_ble_eq_true rfl)
  refine V_cong RB_ok ?_
  clear hZ
  refine V_aload_n dX11_init_286 rfl rfl (V_iconst (v := 0) dX11_init_287 (by decide) ?_)
  refine V_cV1v (M' := M_X11_noCompany) (d' := 1) dX11_init_288 (Or.inl ml_X11_115) kb_X11_noCompany (by first | assumption | exact ⟨by decide, rfl⟩) (by first | decide | omega) (by simp [Value.category]) ⟨by decide, by decide⟩ ?_
  refine mr_noCompany (b := 0) (by decide) (fun I1 n1 n2 n3 n4 n5 n6 => ⟨rfl, ?_⟩)
  refine V_aload_n dX11_init_291 rfl rfl ?_
  refine V_getR dX11_init_292 fl_X11_13 (by first | assumption | exact ⟨by decide, rfl⟩) (by first | assumption | rfl) ?_
  refine V_iconst (v := 0) dX11_init_295 (by decide) (V_iconst (v := 1) dX11_init_296 (by decide) ?_)
  refine V_ias dX11_init_297 (by first | assumption | exact ⟨by decide, rfl⟩) (show ix _ 0 _ from ⟨rfl, by decide⟩) ?_
  refine V_aload_n dX11_init_298 rfl rfl ?_
  refine V_getR dX11_init_299 fl_X11_16 (by first | assumption | exact ⟨by decide, rfl⟩) (by first | assumption | rfl) ?_
  refine V_iconst (v := 0) dX11_init_302 (by decide) (V_bipush (v := 50) dX11_init_303 (by decide) ?_)
  refine V_ias dX11_init_305 (by first | assumption | exact ⟨by decide, rfl⟩) (show ix _ 0 _ from ⟨rfl, by decide⟩) ?_
  refine V_aload_n dX11_init_306 rfl rfl ?_
  refine V_getR dX11_init_307 fl_X11_22 (by first | assumption | exact ⟨by decide, rfl⟩) (by first | assumption | rfl) ?_
  refine V_iconst (v := 0) dX11_init_310 (by decide) (V_iconst (v := 1) dX11_init_311 (by decide) ?_)
  refine V_ias dX11_init_312 (by first | assumption | exact ⟨by decide, rfl⟩) (show ix _ 0 _ from ⟨rfl, by decide⟩) ?_
  refine V_aload_n dX11_init_313 rfl rfl ?_
  refine V_getR dX11_init_314 fl_X11_25 (by first | assumption | exact ⟨by decide, rfl⟩) (by first | assumption | rfl) ?_
  refine V_iconst (v := 0) dX11_init_317 (by decide) (V_bipush (v := 50) dX11_init_318 (by decide) ?_)
  refine V_ias dX11_init_320 (by first | assumption | exact ⟨by decide, rfl⟩) (show ix _ 0 _ from ⟨rfl, by decide⟩) ?_
  refine V_aload_n dX11_init_321 rfl rfl ?_
  refine V_getR dX11_init_322 fl_X11_31 (by first | assumption | exact ⟨by decide, rfl⟩) (by first | assumption | rfl) ?_
  refine V_iconst (v := 0) dX11_init_325 (by decide) (V_bipush (v := 10) dX11_init_326 (by decide) ?_)
  refine V_ias dX11_init_328 (by first | assumption | exact ⟨by decide, rfl⟩) (show ix _ 0 _ from ⟨rfl, by decide⟩) ?_
  refine V_aload_n dX11_init_329 rfl rfl ?_
  refine V_getR dX11_init_330 fl_X11_37 (by first | assumption | exact ⟨by decide, rfl⟩) (by first | assumption | rfl) ?_
  refine V_iconst (v := 0) dX11_init_333 (by decide) (V_iconst (v := 0) dX11_init_334 (by decide) ?_)
  refine V_ias dX11_init_335 (by first | assumption | exact ⟨by decide, rfl⟩) (show ix _ 0 _ from ⟨rfl, by decide⟩) ?_
  refine V_aload_n dX11_init_336 rfl rfl ?_
  refine V_cV0v (M' := M_X11_layRules) (d' := 4) dX11_init_337 (Or.inl ml_X11_119) kb_X11_layRules (by first | assumption | exact ⟨by decide, rfl⟩) (by first | decide | omega) (by simp [Value.category]) ⟨by decide, by decide⟩ ?_
  have hB := KB_KI
  have hz : ∀ x y, 70 ≤ x → (x < 72 ∨ 87 < x ∨ x = 74 ∨ x = 77 ∨ x = 79) → I1 x y = 0 := fun x y a b => by rw [n1 x y (by omega)]; exact h0 x y a
  have hM : MB (up2 (up2 (up2 (up2 (up2 (up2 I1 72 0 1) 73 0 50) 75 0 1) 76 0 50) 78 0 10) 80 0 0) KI := by
    refine ⟨⟨?_, ?_, ?_, ?_⟩, ⟨?_, ?_, ?_, ?_, ?_⟩, fun p hp => ?_, fun p hp => ?_, fun i hi => ?_, fun i hi => ?_, fun s hs => ?_, fun j hj => ?_⟩
    · exact (by decide : (1 : Int32) = nI (KI 0 0))
    · exact (by decide : (1 : Int32) = nI (KI 0 1))
    · exact n2.2.2.1.trans (by decide : (0 : Int32) = nI (KI 0 2))
    · exact n2.2.2.2.trans (by decide : (0 : Int32) = nI (KI 0 3))
    · exact n6.1.trans (by decide : (0 : Int32) = nI (KI 0 4))
    · exact n6.2.1.trans (by decide : (1 : Int32) = nI (KI 0 5))
    · exact n6.2.2.1.trans (by decide : (10 : Int32) = nI (KI 0 6))
    · exact n6.2.2.2.1.trans (by decide : (100 : Int32) = nI (KI 0 7))
    · exact n6.2.2.2.2.trans (by decide : (5 : Int32) = nI (KI 0 8))
    · have hp : p < 1 := hp
      obtain rfl : p = 0 := by omega
      exact ⟨(by decide : (50 : Int32) = nI (KI 1 0)), (hz 74 0 (by omega) (by omega)).trans (by decide : (0 : Int32) = nI (KI 2 0))⟩
    · have h9 := n3 p hp
      rw [Nat.mul_zero, Nat.zero_add] at h9
      exact h9
    · have hi : i < 1 := hi
      obtain rfl : i = 0 := by omega
      exact ⟨(by decide : (50 : Int32) = nI (KI 4 0)), (hz 77 0 (by omega) (by omega)).trans (by decide : (0 : Int32) = nI (KI 5 0)), (by decide : (10 : Int32) = nI (KI 6 0)), (hz 79 0 (by omega) (by omega)).trans (by decide : (0 : Int32) = nI (KI 8 0))⟩
    · by_cases hi0 : i = 0
      · subst hi0
        exact (by decide : (0 : Int32) = owv (KI 7 0))
      · have h9 := n4 i hi
        rw [Nat.mul_zero, Nat.zero_add] at h9
        rw [u2n (by omega), u2n (by omega), u2n (by omega), u2n (by omega), u2n (by omega), u2n (by omega), h9]
        show (-4 : Int32) = owv (up2 _ 7 0 1 7 i)
        rw [u2n (by omega)]
        rfl
    · have hs : s < 0 := hs
      omega
    · have h9 := n5 j hj
      rw [Nat.mul_zero, Nat.zero_add] at h9
      exact h9
  refine mr_layRules hB hM (fun I3 k1 k2 => ⟨rfl, ?_⟩)
  refine V_return dX11_init_340 rfl rfl (by decide) (by decide) ?_
  have g3 : ∀ x y, 70 ≤ x → x ≠ 93 → x ≠ 94 → (x < 72 ∨ 87 < x) → I3 x y = 0 := fun x y a b c e => by
    rw [k1 x y b c, u2n (by omega), u2n (by omega), u2n (by omega), u2n (by omega), u2n (by omega), u2n (by omega)]
    exact hz x y a (by omega)
  refine Kk I3 ⟨hB, hM.all hB (fun x y a b => k1 x y (by omega) (by omega)), k2, ⟨Nat.zero_le _, g3 _ _ (by omega) (by omega) (by omega) (by omega), fun j hj => absurd hj (by show ¬ j < 0; omega)⟩, ⟨MDX.mk0 (g3 _ _ (by omega) (by omega) (by omega) (by omega)) (fun j hj => g3 _ _ (by omega) (by omega) (by omega) (by omega)) (fun q hq => g3 _ _ (by omega) (by omega) (by omega) (by omega)), fun z => absurd z (by omega), fun z => absurd z (by omega), g3 _ _ (by omega) (by omega) (by omega) (by omega), fun q hq => g3 _ _ (by omega) (by omega) (by omega) (by omega)⟩⟩ (fun x y hx => ?_)
  rw [k1 x y (by omega) (by omega), u2n (by omega), u2n (by omega), u2n (by omega), u2n (by omega), u2n (by omega), u2n (by omega), n1 x y (by omega)]
end
