/-! Long.bitCount -/
theorem bcL_pop {x : Nat} (hx : x < 2 ^ 45) : bcL (lN x) = nI (popL x) := by
  have ha : lN x - (luS (lN x) 1 &&& 6148914691236517205) = lN (dg 4 (fun d => d - d / 2) 32 x) := by
    rw [luS_lN (k := 1) (by omega) (by omega) (by decide +kernel), show (6148914691236517205 : Int64) = lN (m5 32) by decide +kernel, fb_andL]
    have := s1_dg 32 x (by omega)
    rw [lN_sub (by simpa using this.1)]
    rw [show x / 2 ^ 1 = x / 2 by rfl, this.2]
  have hle : dg 4 (fun d => d - d / 2) 32 x ≤ x := by
    have := s1_dg 32 x (by omega)
    rw [← this.2]; omega
  have hb : ∀ y, y ≤ x → (lN y &&& 3689348814741910323) + (luS (lN y) 2 &&& 3689348814741910323) = lN (dg 16 (fun d => d % 4 + d / 4) 16 y) ∧ dg 16 (fun d => d % 4 + d / 4) 16 y ≤ 2 * x := fun y hy => by
    rw [luS_lN (k := 2) (by omega) (by omega) (by decide +kernel), show (3689348814741910323 : Int64) = lN (m3 16) by decide +kernel, fb_andL, fb_andL, lN_add, show y / 2 ^ 2 = y / 4 by rfl, s2_dg 16 y (by omega)]
    refine ⟨rfl, ?_⟩
    rw [← s2_dg 16 y (by omega)]
    have q1 := Nat.and_le_left (n := y) (m := m3 16)
    have q2 := Nat.and_le_left (n := y / 4) (m := m3 16)
    omega
  have hd : d4 8 (dg 16 (fun d => d % 4 + d / 4) 16 (dg 4 (fun d => d - d / 2) 32 x)) := by
    refine dg_d4 8 _ (fun j => ?_)
    have q1 := dg_s1_small 32 x (2 * j)
    have q2 := dg_s1_small 32 x (2 * j + 1)
    generalize dg 4 (fun d => d - d / 2) 32 x = y at *
    rw [show 16 ^ j = 4 ^ (2 * j) by rw [Nat.pow_mul]]
    rw [Nat.pow_succ, ← Nat.div_div_eq_div_mul] at q2
    generalize y / 4 ^ (2 * j) = u at *
    omega
  have hc : ∀ z, z ≤ 2 * x → d4 8 z → ((lN z + luS (lN z) 4) &&& 1085102592571150095) = lN (dg 256 (fun d => d % 16 + d / 16) 8 z) := fun z hz hdz => by
    rw [luS_lN (k := 4) (by omega) (by omega) (by decide +kernel), show (1085102592571150095 : Int64) = lN (mf 8) by decide +kernel, lN_add, fb_andL, show z / 2 ^ 4 = z / 16 by rfl, s3_dg 8 z hdz]
  obtain ⟨b1, b2⟩ := hb _ hle
  have c1 := hc _ b2 hd
  have e := dg_bytes 8 x
  rw [show 2 * 8 = 16 from rfl, show 4 * 8 = 32 from rfl] at e
  rw [e] at c1
  unfold bcL
  dsimp only
  rw [ha, b1, c1]
  have hw : dg 256 pc8 8 x = pc8 (x % 256) + 256 * (pc8 (x / 256 % 256) + 256 * (pc8 (x / 256 / 256 % 256) + 256 * (pc8 (x / 256 / 256 / 256 % 256) + 256 * (pc8 (x / 256 / 256 / 256 / 256 % 256) + 256 * (pc8 (x / 256 / 256 / 256 / 256 / 256 % 256) + 256 * (pc8 (x / 256 / 256 / 256 / 256 / 256 / 256 % 256) + 256 * (pc8 (x / 256 / 256 / 256 / 256 / 256 / 256 / 256 % 256) + 256 * 0))))))) := rfl
  have t0 := pc8_le (x % 256)
  have t1 := pc8_le (x / 256 % 256)
  have t2 := pc8_le (x / 256 / 256 % 256)
  have t3 := pc8_le (x / 256 / 256 / 256 % 256)
  have t4 := pc8_le (x / 256 / 256 / 256 / 256 % 256)
  have t5 := pc8_le (x / 256 / 256 / 256 / 256 / 256 % 256)
  have t6 := pc8_le (x / 256 / 256 / 256 / 256 / 256 / 256 % 256)
  have t7 := pc8_le (x / 256 / 256 / 256 / 256 / 256 / 256 / 256 % 256)
  have fb := fold_bytes t0 t1 t2 t3 t4 t5 t6 t7 hw rfl rfl rfl
  rw [← popL_bytes] at fb
  have wl : dg 256 pc8 8 x < 2 ^ 60 := by rw [hw]; clear hw fb e c1 b1 b2 hc hd hb hle ha; omega
  generalize dg 256 pc8 8 x = w at *
  rw [luS_lN (k := 8) (by omega) (by omega) (by decide +kernel), lN_add, luS_lN (k := 16) (by omega) (by omega) (by decide +kernel), lN_add, luS_lN (k := 32) (by omega) (by omega) (by decide +kernel), lN_add, lN_i, show (127 : Int32) = nI (2 ^ 7 - 1) from rfl, and_nI, Nat.and_two_pow_sub_one_eq_mod]
  exact congrArg nI fb
section
variable {E : En} {n : Nat} {I : TI} {J : TJ} {R : TR} {Post : PT}
theorem sp_bitCountL {x : Int64} (Kk : Post (some (.int (bcL x))) n I J R) : Cal E 1 M_J13_bitCount_95d88 [.long x] n I J R Post := by
  refine Cal_of kn_J13_bitCount_95d88 rfl (Nat.le_of_ble_eq_true rfl) ?_
  refine V_lload_n dJ13_bitCount_95d88_0 rfl rfl (V_lload_n dJ13_bitCount_95d88_1 rfl rfl (V_iconst (v := 1) dJ13_bitCount_95d88_2 (by decide) (V_lushr dJ13_bitCount_95d88_3 (V_ldc2_w dJ13_bitCount_95d88_4 ct_J13_314 (V_land dJ13_bitCount_95d88_7 ?_)))))
  refine V_lsub dJ13_bitCount_95d88_8 (V_lstore_0 dJ13_bitCount_95d88_9 (by decide) (V_lload_n dJ13_bitCount_95d88_10 rfl rfl (V_ldc2_w dJ13_bitCount_95d88_11 ct_J13_316 (V_land dJ13_bitCount_95d88_14 (V_lload_n dJ13_bitCount_95d88_15 rfl rfl ?_)))))
  refine V_iconst (v := 2) dJ13_bitCount_95d88_16 (by decide) (V_lushr dJ13_bitCount_95d88_17 (V_ldc2_w dJ13_bitCount_95d88_18 ct_J13_316 (V_land dJ13_bitCount_95d88_21 (V_ladd dJ13_bitCount_95d88_22 (V_lstore_0 dJ13_bitCount_95d88_23 (by decide) ?_)))))
  refine V_lload_n dJ13_bitCount_95d88_24 rfl rfl (V_lload_n dJ13_bitCount_95d88_25 rfl rfl (V_iconst (v := 4) dJ13_bitCount_95d88_26 (by decide) (V_lushr dJ13_bitCount_95d88_27 (V_ladd dJ13_bitCount_95d88_28 (V_ldc2_w dJ13_bitCount_95d88_29 ct_J13_318 ?_)))))
  refine V_land dJ13_bitCount_95d88_32 (V_lstore_0 dJ13_bitCount_95d88_33 (by decide) (V_lload_n dJ13_bitCount_95d88_34 rfl rfl (V_lload_n dJ13_bitCount_95d88_35 rfl rfl (V_bipush (v := 8) dJ13_bitCount_95d88_36 (by decide) (V_lushr dJ13_bitCount_95d88_38 ?_)))))
  refine V_ladd dJ13_bitCount_95d88_39 (V_lstore_0 dJ13_bitCount_95d88_40 (by decide) (V_lload_n dJ13_bitCount_95d88_41 rfl rfl (V_lload_n dJ13_bitCount_95d88_42 rfl rfl (V_bipush (v := 16) dJ13_bitCount_95d88_43 (by decide) (V_lushr dJ13_bitCount_95d88_45 ?_)))))
  refine V_ladd dJ13_bitCount_95d88_46 (V_lstore_0 dJ13_bitCount_95d88_47 (by decide) (V_lload_n dJ13_bitCount_95d88_48 rfl rfl (V_lload_n dJ13_bitCount_95d88_49 rfl rfl (V_bipush (v := 32) dJ13_bitCount_95d88_50 (by decide) (V_lushr dJ13_bitCount_95d88_52 ?_)))))
  refine V_ladd dJ13_bitCount_95d88_53 (V_lstore_0 dJ13_bitCount_95d88_54 (by decide) (V_lload_n dJ13_bitCount_95d88_55 rfl rfl (V_l2i dJ13_bitCount_95d88_56 (V_bipush (v := 127) dJ13_bitCount_95d88_57 (by decide) (V_iand dJ13_bitCount_95d88_59 ?_)))))
  refine V_ireturn dJ13_bitCount_95d88_60 rfl rfl rfl (by decide) (by decide) ?_
  exact Kk
end
