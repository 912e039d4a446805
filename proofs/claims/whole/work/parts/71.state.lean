/-! The state of both sides as one mathematical value; the class holds it -/
abbrev Di : Type := Nat × (Nat → Nat) × (Nat → Int32)
/-- the bounds -/
def SB (t : Nat → Nat) (len : Nat) (K : KT) (D D1 D2 : Di) (kp : Nat) : Prop := KB K ∧ KC K ∧ 1 ≤ K 0 0 ∧ 1 ≤ K 0 1 ∧ len ≤ 400 ∧ (∀ j, t j < 256) ∧ DB D.1 D.2.1 ∧ DB D1.1 D1.2.1 ∧ DB D2.1 D2.2.1 ∧ kp ≤ 2
def CTX (I : TI) (t : Nat → Nat) (len : Nat) : Prop := TX I t len ∧ I 0 1 = nI len
def CDI (I : TI) (D D1 D2 : Di) (kp : Nat) (tl : Nat → Int32) : Prop := DX I 32 D.1 D.2.1 D.2.2 ∧ (1 ≤ kp → DX I 35 D1.1 D1.2.1 D1.2.2) ∧ (2 ≤ kp → DX I 38 D2.1 D2.2.1 D2.2.2) ∧ I 0 8 = nI kp ∧ ∀ p, p < 10 → I 41 p = tl p
def CCA (I : TI) (J : TJ) (K : KT) : Prop := ANS I K ∧ UNS I J K ∧ TWO I K ∧ SIC I K
theorem CTX.of {I I' : TI} {t : Nat → Nat} {len : Nat} (h : CTX I t len) (h1 : ∀ y, I' 1 y = I 1 y) (h0 : I' 0 1 = I 0 1) : CTX I' t len := ⟨⟨h.1.1, fun j hj => by rw [h1]; exact h.1.2 j hj⟩, by rw [h0]; exact h.2⟩
theorem DX.of2 {I I' : TI} {c td : Nat} {sd : Nat → Nat} {ow : Nat → Int32} (h : DX I c td sd ow) (he : ∀ x y, c ≤ x → x ≤ c + 2 → I' x y = I x y) : DX I' c td sd ow :=
  ⟨by rw [he _ _ (by omega) (by omega)]; exact h.1, fun j hj => by rw [he _ _ (by omega) (by omega)]; exact h.2.1 j hj, fun p hp => by rw [he _ _ (by omega) (by omega)]; exact h.2.2 p hp⟩
theorem CDI.of {I I' : TI} {D D1 D2 : Di} {kp : Nat} {tl : Nat → Int32} (h : CDI I D D1 D2 kp tl) (h1 : ∀ x y, 32 ≤ x → x ≤ 41 → I' x y = I x y) (h0 : I' 0 8 = I 0 8) : CDI I' D D1 D2 kp tl :=
  ⟨h.1.of2 (fun x y a b => h1 x y (by omega) (by omega)), fun k => (h.2.1 k).of2 (fun x y a b => h1 x y (by omega) (by omega)), fun k => (h.2.2.1 k).of2 (fun x y a b => h1 x y (by omega) (by omega)), by rw [h0]; exact h.2.2.2.1, fun p hp => by rw [h1 _ _ (by omega) (by omega)]; exact h.2.2.2.2 p hp⟩
theorem UNS.of {I I' : TI} {J J' : TJ} {K : KT} (h : UNS I J K) (h1 : I' 53 5 = I 53 5) (h2 : ∀ y, J' 58 y = J 58 y) : UNS I' J' K := by
  obtain ⟨m, a, b, c, d⟩ := h
  exact ⟨m, a, by rw [h1]; exact b, fun z q hq => by rw [h2]; exact c z q hq, fun z q hq => by rw [h2]; exact d z q hq⟩
theorem TWO.of {I I' : TI} {K : KT} (h : TWO I K) (h1 : I' 53 6 = I 53 6) (h2 : I' 53 7 = I 53 7) : TWO I' K := by unfold TWO; rw [h1, h2]; exact h
theorem SIC.of {I I' : TI} {K : KT} (h : SIC I K) (h1 : ∀ y, I' 59 y = I 59 y) (h2 : ∀ y, I' 60 y = I 60 y) : SIC I' K := by
  rcases h with h | ⟨a, b, c, d, e, f, g⟩
  · exact Or.inl (by rw [h1]; exact h)
  · exact Or.inr ⟨a, b, c, d, by rw [h1]; exact e, by rw [h1]; exact f, fun s hs => by rw [h2]; exact g s hs⟩
theorem CCA.of {I I' : TI} {J J' : TJ} {K : KT} (h : CCA I J K) (h1 : ∀ x y, 48 ≤ x → x ≤ 60 → I' x y = I x y) (h2 : ∀ y, J' 58 y = J 58 y) : CCA I' J' K :=
  ⟨h.1.of (fun b => h1 _ _ (by omega) (by omega)), h.2.1.of (h1 _ _ (by omega) (by omega)) h2, h.2.2.1.of (h1 _ _ (by omega) (by omega)) (h1 _ _ (by omega) (by omega)), h.2.2.2.of (fun y => h1 _ _ (by omega) (by omega)) (fun y => h1 _ _ (by omega) (by omega))⟩
def SW (co dr : Nat) : Prop := co = 4 ∧ dr = 18 ∨ co = 18 ∧ dr = 4
theorem SW.co {co dr : Nat} (h : SW co dr) : co = 4 ∨ co = 18 := by rcases h with h | h <;> omega
theorem SW.dr {co dr : Nat} (h : SW co dr) : dr = 4 ∨ dr = 18 := by rcases h with h | h <;> omega
theorem SW.sw {co dr : Nat} (h : SW co dr) : SW dr co := by unfold SW at *; omega
/-- the class holds the state -/
def CS (t : Nat → Nat) (len : Nat) (K : KT) (D D1 D2 : Di) (kp : Nat) (tl : Nat → Int32) (I : TI) (J : TJ) (R : TR) : Prop := ∃ co dr cc a1 a2, SW co dr ∧ R = RR co dr cc a1 a2 ∧ CoX I co K ∧ SX I co K ∧ CTX I t len ∧ CDI I D D1 D2 kp tl ∧ CCA I J K
/-- a call of the class: its answer and the state after it; the reference's cells are let be -/
def OK (t : Nat → Nat) (len : Nat) (K : KT) (D D1 D2 : Di) (kp : Nat) (tl : Nat → Int32) (v : Option Value) (I : TI) (J : TJ) : PT := fun v' n I' J' R' => v' = v ∧ n = NC ∧ CS t len K D D1 D2 kp tl I' J' R' ∧ (∀ x y, 70 ≤ x → I' x y = I x y) ∧ ∀ x y, x ≠ 58 → J' x y = J x y
section
variable {E : En} {I : TI} {J : TJ} {R : TR} {t : Nat → Nat} {len : Nat} {K : KT} {D D1 D2 : Di} {kp : Nat} {tl : Nat → Int32}
theorem op_wipe {d : Nat} (h : CS t len K D D1 D2 kp tl I J R) : Cal E d M_X10_wipe [.ref 0] NC I J R (OK t 0 K D D1 D2 kp tl (some (.int (nI len))) I J) := by
  obtain ⟨co, dr, cc, a1, a2, hw, rfl, hX, hS, hT, hD, hC⟩ := h
  have hco := hw.co
  refine Cal_of kn_X10_wipe rfl (Nat.le_of_ble_eq_true rfl) ?_
  refine V_aload_n dX10_wipe_0 rfl rfl ?_
  refine V_getI dX10_wipe_1 fl_X10_102 (by first | assumption | exact ⟨by decide, rfl⟩) ?_
  refine V_istore_1 dX10_wipe_4 (by decide) rfl (V_aload_n dX10_wipe_5 rfl rfl (V_iconst (v := 0) dX10_wipe_6 (by decide) ?_))
  refine V_putI dX10_wipe_7 fl_X10_102 (by first | assumption | exact ⟨by decide, rfl⟩) ?_
  refine V_iload_n dX10_wipe_10 rfl rfl ?_
  refine V_ireturn dX10_wipe_11 rfl rfl rfl (by decide) (by decide) ?_
  refine ⟨by rw [hT.2], rfl, ⟨co, dr, cc, a1, a2, hw, rfl, hX.of (fun x y p q => by rw [u2n (by omega)]), hS.of (fun b => ⟨by rw [u2n (by omega)], by rw [u2n (by omega)]⟩), ⟨⟨Nat.zero_le _, fun j hj => absurd hj (by show ¬ j < 0; omega)⟩, by rw [u2e]; rfl⟩, hD.of (fun x y p q => by rw [u2n (by omega)]) (by rw [u2n (by omega)]), hC.of (fun x y p q => by rw [u2n (by omega)]) (fun _ => rfl)⟩, fun x y p => by rw [u2n (by omega)], fun _ _ _ => rfl⟩
theorem op_fault {d : Nat} (hd : 5 ≤ d) (h : CS t len K D D1 D2 kp tl I J R) : Cal E d M_X10_fault [.ref 0] NC I J R (OK t len K D D1 D2 kp tl (some (.int (flt (rdF t len (len + 1) K0 0).1))) I J) := by
  obtain ⟨co, dr, cc, a1, a2, hw, rfl, hX, hS, hT, hD, hC⟩ := h
  have hco := hw.co
  have hdr := hw.dr
  have hne : co ≠ dr := by rcases hw with h | h <;> omega
  have hrd : RR co dr cc a1 a2 0 4 = some dr := rfl
  obtain ⟨_, _, _, _, _, _, _, _, _, _, _, _, _, _, _, _, _, _, _, _, _, _, _⟩ := f_co (co := co) (dr := dr) (cc := cc) (a1 := a1) (a2 := a2) (hdr)
  refine Cal_of kn_X10_fault rfl (Nat.le_of_ble_eq_true rfl) ?_
  refine V_aload_n dX10_fault_0 rfl rfl ?_
  refine V_getR dX10_fault_1 fl_X10_16 (by first | assumption | exact ⟨by decide, rfl⟩) (by first | assumption | rfl) ?_
  refine V_aload_n dX10_fault_4 rfl rfl ?_
  refine V_getR dX10_fault_5 fl_X10_9 (by first | assumption | exact ⟨by decide, rfl⟩) (by first | assumption | rfl) ?_
  refine V_aload_n dX10_fault_8 rfl rfl ?_
  refine V_getI dX10_fault_9 fl_X10_102 (by first | assumption | exact ⟨by decide, rfl⟩) ?_
  refine V_aload_n dX10_fault_12 rfl rfl ?_
  refine V_getR dX10_fault_13 fl_X10_27 (by first | assumption | exact ⟨by decide, rfl⟩) (by first | assumption | rfl) ?_
  refine V_cV3i (M' := M_X6_firstFault) (d' := 4) dX10_fault_16 (Or.inl ml_X10_106) kb_X6_firstFault (by first | assumption | exact ⟨by decide, rfl⟩) (by first | decide | omega) (by simp [Value.category]) ⟨by decide, by decide⟩ ?_
  rw [hT.2]
  refine sp_firstFault hdr hT.1 (fun I' g1 g2 g3 => ⟨_, rfl, ?_⟩)
  refine V_ireturn dX10_fault_19 rfl rfl rfl (by decide) (by decide) ?_
  refine ⟨rfl, rfl, ⟨co, dr, cc, a1, a2, hw, rfl, hX.of (fun x y p q => g1 x y (by omega) (by omega) (by omega)), hS.of (fun b => ⟨g1 _ _ (by omega) (by omega) (by omega), g1 _ _ (by omega) (by omega) (by omega)⟩), hT.of (fun y => g1 _ _ (by omega) (by omega) (by omega)) (g1 _ _ (by omega) (by omega) (by omega)), hD.of (fun x y p q => g1 x y (by omega) (by omega) (by omega)) (g1 _ _ (by omega) (by omega) (by omega)), hC.of (fun x y p q => g1 x y (by omega) (by omega) (by omega)) (fun _ => rfl)⟩, fun x y p => g1 x y (by omega) (by omega) (by omega), fun _ _ _ => rfl⟩
end
