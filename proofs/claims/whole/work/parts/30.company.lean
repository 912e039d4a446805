/-! A company as a mathematical value K, and how the class and the reference hold it -/
abbrev KT : Type := Nat → Nat → Nat
def owv (w : Nat) : Int32 := if w = 0 then -4 else nI (w - 1)
def cutM (K : KT) : Nat := mk (fun i => decide (K 8 i = 1)) (K 0 1)
def skl (K : KT) (p i : Nat) : Bool := decide (andn (K 5 i) (K 2 p) = 0)
def may (K : KT) (p i : Nat) : Bool := (decide (K 7 i = p + 1) || (K 3 p).testBit i) && skl K p i
/-- scenes from s on, r of them: whether one player can't have both parts; last: 0 none, 1 as i, 2 as j -/
def clsL (K : KT) (i j : Nat) : Nat → Nat → Nat → Nat → Bool
  | 0, _, _, _ => false
  | r + 1, s, last, since =>
    if (K 9 s).testBit i = false ∧ (K 9 s).testBit j = false then clsL K i j r (s + 1) last (since + K 10 s)
    else if ((K 9 s).testBit i = true ∧ (K 9 s).testBit j = true) ∨ (last ≠ 0 ∧ last ≠ (if (K 9 s).testBit i then 1 else 2) ∧ since < K 0 4) then true
    else clsL K i j r (s + 1) (if (K 9 s).testBit i then 1 else 2) 0
def cls (K : KT) (i j : Nat) : Bool := clsL K i j (K 0 2) 0 0 0
def ableM (K : KT) (i : Nat) : Nat := mk (fun p => may K p i) (K 0 0)
def clashM (K : KT) (i : Nat) : Nat := mk (fun j => decide (j ≠ i) && cls K i j) (K 0 1)
def mayM (K : KT) (p : Nat) : Nat := mk (fun i => may K p i) (K 0 1)
def withM (K : KT) (i : Nat) : Nat := mk (fun j => decide (i ≠ j) && !cls K i j) (K 0 1)
def lsum (K : KT) (a : Nat) : Nat := fb_sm (fun i => if a.testBit i then K 6 i else 0) (K 0 1)
/-- the bounds that the text's rules give -/
def KB (K : KT) : Prop :=
  (K 0 0 ≤ 10 ∧ K 0 1 ≤ 8 ∧ K 0 2 ≤ 10 ∧ K 0 3 ≤ 24 ∧ K 0 4 ≤ 99 ∧ K 0 5 ≤ 9 ∧ K 0 6 ≤ 99 ∧ K 0 7 ≤ 999 ∧ K 0 8 ≤ 99) ∧
  (∀ p, p < K 0 0 → K 1 p ≤ 99 ∧ K 2 p ≤ 15) ∧ (∀ p, K 3 p < 2 ^ K 0 1) ∧
  (∀ i, i < K 0 1 → K 4 i ≤ 99 ∧ K 5 i ≤ 15 ∧ 1 ≤ K 6 i ∧ K 6 i ≤ 999 ∧ K 8 i ≤ 1) ∧
  (∀ i, K 7 i ≤ K 0 0) ∧ (∀ s, s < K 0 2 → K 9 s < 2 ^ K 0 1 ∧ K 10 s ≤ 99) ∧ (∀ j, K 11 j ≤ 100)
def CoX (I : TI) (c : Nat) (K : KT) : Prop :=
  (I c 0 = nI (K 0 0) ∧ I c 1 = nI (K 0 1) ∧ I c 2 = nI (K 0 3) ∧ I c 10 = nI (cutM K) ∧ I c 13 = nI (K 0 5) ∧ I c 14 = nI (K 0 6) ∧ I c 15 = nI (K 0 7) ∧ I c 16 = nI (K 0 8)) ∧
  (I (c + 8) 0 = nI (K 0 2) ∧ I (c + 8) 1 = nI (K 0 4)) ∧
  (∀ p, p < K 0 0 → I (c + 1) p = nI (K 1 p) ∧ I (c + 2) p = nI (K 2 p)) ∧
  (∀ p, p < 10 → I (c + 3) p = nI (K 3 p)) ∧
  (∀ i, i < K 0 1 → I (c + 4) i = nI (K 4 i) ∧ I (c + 5) i = nI (K 5 i) ∧ I (c + 6) i = nI (K 6 i)) ∧
  (∀ i, i < 8 → I (c + 7) i = owv (K 7 i)) ∧
  (∀ s, s < K 0 2 → I (c + 9) s = nI (K 9 s) ∧ I (c + 10) s = nI (K 10 s)) ∧
  (∀ j, j < 100 → I (c + 11) j = nI (K 11 j))
def SX (I : TI) (c : Nat) (K : KT) : Prop := ∀ i, i < K 0 1 → I (c + 12) i = nI (ableM K i) ∧ I (c + 13) i = nI (clashM K i)
theorem CoX.of {I I' : TI} {c : Nat} {K : KT} (h : CoX I c K) (he : ∀ a b, c ≤ a → a ≤ c + 11 → I' a b = I a b) : CoX I' c K := by
  obtain ⟨⟨a1, a2, a3, a4, a5, a6, a7, a8⟩, ⟨b1, b2⟩, d, e, f, g, k, l⟩ := h
  refine ⟨⟨?_, ?_, ?_, ?_, ?_, ?_, ?_, ?_⟩, ⟨?_, ?_⟩, fun p hp => ⟨?_, ?_⟩, fun p hp => ?_, fun i hi => ⟨?_, ?_, ?_⟩, fun i hi => ?_, fun s hs => ⟨?_, ?_⟩, fun j hj => ?_⟩ <;> rw [he _ _ (by omega) (by omega)]
  · exact a1
  · exact a2
  · exact a3
  · exact a4
  · exact a5
  · exact a6
  · exact a7
  · exact a8
  · exact b1
  · exact b2
  · exact (d p hp).1
  · exact (d p hp).2
  · exact e p hp
  · exact (f i hi).1
  · exact (f i hi).2.1
  · exact (f i hi).2.2
  · exact g i hi
  · exact (k s hs).1
  · exact (k s hs).2
  · exact l j hj
theorem SX.of {I I' : TI} {c : Nat} {K : KT} (h : SX I c K) (he : ∀ b, I' (c + 12) b = I (c + 12) b ∧ I' (c + 13) b = I (c + 13) b) : SX I' c K := fun i hi => ⟨by rw [(he i).1]; exact (h i hi).1, by rw [(he i).2]; exact (h i hi).2⟩
/-- a number of a told range -/
def inR (x : Int32) (n : Nat) : Bool := decide (0 ≤ x.toInt ∧ x.toInt < (n : Int))
theorem inR_t {x : Int32} {n : Nat} (h : inR x n = true) (hn : n < 2 ^ 31) : ∃ j, j < n ∧ x = nI j := vp_in_of (vp_in_iff.mpr (of_decide_eq_true h)) hn
theorem inR_nI {j n : Nat} (hj : j < 2 ^ 31) : inR (nI j) n = decide (j < n) := by
  unfold inR
  rw [nI_toInt hj]
  simp
theorem inR_lt {x : Int32} {n : Nat} (h : x < 0) : inR x n = false := by
  unfold inR
  have := Int32.lt_iff_toInt_lt.mp h
  simp at this
  simp; omega
theorem inR_ge {x : Int32} {n : Nat} (hn : n < 2 ^ 31) (h : nI n ≤ x) : inR x n = false := by
  unfold inR
  have := Int32.le_iff_toInt_le.mp h
  rw [nI_toInt hn] at this
  simp; omega
theorem inR_in {x : Int32} {n : Nat} (hn : n < 2 ^ 31) (h0 : ¬ x < 0) (h : ¬ nI n ≤ x) : inR x n = true := by
  unfold inR
  have h1 := (not_congr Int32.lt_iff_toInt_lt).mp h0
  have h2 := (not_congr Int32.le_iff_toInt_le).mp h
  rw [nI_toInt hn] at h2
  simp at h1
  simp; omega
theorem owv_eq {w p : Nat} (hw : w ≤ 10) (hp : p < 2 ^ 31) : owv w = nI p ↔ w = p + 1 := by
  unfold owv
  by_cases h : w = 0
  · subst h
    rw [if_pos rfl]
    constructor
    · intro q
      have := congrArg Int32.toInt q
      rw [nI_toInt hp] at this
      have e : (-4 : Int32).toInt = -4 := by decide
      omega
    · intro q; omega
  · rw [if_neg h, nI_eq (by omega) hp]
    omega
section
variable {E : En} {I : TI} {J : TJ} {co dr : Nat} {cc a1 a2 : Option Nat} {Post : PT} {c : Nat} {K : KT}
theorem sp_hasPlayer (hc : c = 4 ∨ c = 18) {P : Nat} (hP : I c 0 = nI P) (hP2 : P < 2 ^ 31) {p : Int32} (Kk : Post (some (.int (b2i (inR p P)))) NC I J (RR co dr cc a1 a2)) : Cal E 1 M_X3_hasPlayer [.ref c, .int p] NC I J (RR co dr cc a1 a2) Post := by
  obtain ⟨_, _, _, _, _, _, _, _, _, _, _, _, _, _, _, _, _, _, _, _, _, _, _⟩ := f_co (co := co) (dr := dr) (cc := cc) (a1 := a1) (a2 := a2) (hc)
  refine Cal_of kn_X3_hasPlayer rfl (Nat.le_of_ble_eq_true rfl) ?_
  refine V_iload_n dX3_hasPlayer_0 rfl rfl ?_
  refine V_if_lt (tgt := 16) dX3_hasPlayer_1 (by decide) (fun h1 => ?_) (fun h1 => ?_)
  · refine V_iconst (v := 0) dX3_hasPlayer_16 (by decide) ?_
    refine V_ireturn dX3_hasPlayer_17 rfl rfl rfl (by decide) (by decide) ?_
    rw [inR_lt h1] at Kk; exact Kk
  · refine V_iload_n dX3_hasPlayer_4 rfl rfl (V_aload_n dX3_hasPlayer_5 rfl rfl ?_)
    refine V_getI dX3_hasPlayer_6 fl_X3_49 (by first | assumption | exact ⟨by decide, rfl⟩) ?_
    refine V_icmp_ge (tgt := 16) dX3_hasPlayer_9 (by decide) (fun h9 => ?_) (fun h9 => ?_)
    · refine V_iconst (v := 0) dX3_hasPlayer_16 (by decide) ?_
      refine V_ireturn dX3_hasPlayer_17 rfl rfl rfl (by decide) (by decide) ?_
      rw [hP] at h9
      rw [inR_ge hP2 h9] at Kk; exact Kk
    · refine V_iconst (v := 1) dX3_hasPlayer_12 (by decide) (V_goto (tgt := 17) dX3_hasPlayer_13 (by decide) ?_)
      refine V_ireturn dX3_hasPlayer_17 rfl rfl rfl (by decide) (by decide) ?_
      rw [hP] at h9
      rw [inR_in hP2 h1 h9] at Kk; exact Kk
theorem sp_hasPart (hc : c = 4 ∨ c = 18) {P : Nat} (hP : I c 1 = nI P) (hP2 : P < 2 ^ 31) {p : Int32} (Kk : Post (some (.int (b2i (inR p P)))) NC I J (RR co dr cc a1 a2)) : Cal E 1 M_X3_hasPart [.ref c, .int p] NC I J (RR co dr cc a1 a2) Post := by
  obtain ⟨_, _, _, _, _, _, _, _, _, _, _, _, _, _, _, _, _, _, _, _, _, _, _⟩ := f_co (co := co) (dr := dr) (cc := cc) (a1 := a1) (a2 := a2) (hc)
  refine Cal_of kn_X3_hasPart rfl (Nat.le_of_ble_eq_true rfl) ?_
  refine V_iload_n dX3_hasPart_0 rfl rfl ?_
  refine V_if_lt (tgt := 16) dX3_hasPart_1 (by decide) (fun h1 => ?_) (fun h1 => ?_)
  · refine V_iconst (v := 0) dX3_hasPart_16 (by decide) ?_
    refine V_ireturn dX3_hasPart_17 rfl rfl rfl (by decide) (by decide) ?_
    rw [inR_lt h1] at Kk; exact Kk
  · refine V_iload_n dX3_hasPart_4 rfl rfl (V_aload_n dX3_hasPart_5 rfl rfl ?_)
    refine V_getI dX3_hasPart_6 fl_X3_53 (by first | assumption | exact ⟨by decide, rfl⟩) ?_
    refine V_icmp_ge (tgt := 16) dX3_hasPart_9 (by decide) (fun h9 => ?_) (fun h9 => ?_)
    · refine V_iconst (v := 0) dX3_hasPart_16 (by decide) ?_
      refine V_ireturn dX3_hasPart_17 rfl rfl rfl (by decide) (by decide) ?_
      rw [hP] at h9
      rw [inR_ge hP2 h9] at Kk; exact Kk
    · refine V_iconst (v := 1) dX3_hasPart_12 (by decide) (V_goto (tgt := 17) dX3_hasPart_13 (by decide) ?_)
      refine V_ireturn dX3_hasPart_17 rfl rfl rfl (by decide) (by decide) ?_
      rw [hP] at h9
      rw [inR_in hP2 h1 h9] at Kk; exact Kk
theorem sp_hasPlayers (hc : c = 4 ∨ c = 18) {P : Nat} (hP : I c 0 = nI P) (hP2 : P ≤ 10) {p : Int32} (Kk : Post (some (.int (b2i (inR p (2 ^ P))))) NC I J (RR co dr cc a1 a2)) : Cal E 1 M_X3_hasPlayers [.ref c, .int p] NC I J (RR co dr cc a1 a2) Post := by
  have h2 : 2 ^ P < 2 ^ 31 := Nat.pow_lt_pow_right (by decide) (by omega)
  obtain ⟨_, _, _, _, _, _, _, _, _, _, _, _, _, _, _, _, _, _, _, _, _, _, _⟩ := f_co (co := co) (dr := dr) (cc := cc) (a1 := a1) (a2 := a2) (hc)
  refine Cal_of kn_X3_hasPlayers rfl (Nat.le_of_ble_eq_true rfl) ?_
  refine V_iload_n dX3_hasPlayers_0 rfl rfl ?_
  refine V_if_lt (tgt := 18) dX3_hasPlayers_1 (by decide) (fun h1 => ?_) (fun h1 => ?_)
  · refine V_iconst (v := 0) dX3_hasPlayers_18 (by decide) ?_
    refine V_ireturn dX3_hasPlayers_19 rfl rfl rfl (by decide) (by decide) ?_
    rw [inR_lt h1] at Kk; exact Kk
  · refine V_iload_n dX3_hasPlayers_4 rfl rfl (V_iconst (v := 1) dX3_hasPlayers_5 (by decide) (V_aload_n dX3_hasPlayers_6 rfl rfl ?_))
    refine V_getI dX3_hasPlayers_7 fl_X3_49 (by first | assumption | exact ⟨by decide, rfl⟩) ?_
    refine V_ishl dX3_hasPlayers_10 ?_
    refine V_icmp_ge (tgt := 18) dX3_hasPlayers_11 (by decide) (fun h11 => ?_) (fun h11 => ?_)
    · refine V_iconst (v := 0) dX3_hasPlayers_18 (by decide) ?_
      refine V_ireturn dX3_hasPlayers_19 rfl rfl rfl (by decide) (by decide) ?_
      rw [hP, shl1 (by omega)] at h11
      rw [inR_ge h2 h11] at Kk; exact Kk
    · refine V_iconst (v := 1) dX3_hasPlayers_14 (by decide) (V_goto (tgt := 19) dX3_hasPlayers_15 (by decide) ?_)
      refine V_ireturn dX3_hasPlayers_19 rfl rfl rfl (by decide) (by decide) ?_
      rw [hP, shl1 (by omega)] at h11
      rw [inR_in h2 h1 h11] at Kk; exact Kk
theorem sp_hasParts (hc : c = 4 ∨ c = 18) {P : Nat} (hP : I c 1 = nI P) (hP2 : P ≤ 10) {p : Int32} (Kk : Post (some (.int (b2i (inR p (2 ^ P))))) NC I J (RR co dr cc a1 a2)) : Cal E 1 M_X3_hasParts [.ref c, .int p] NC I J (RR co dr cc a1 a2) Post := by
  have h2 : 2 ^ P < 2 ^ 31 := Nat.pow_lt_pow_right (by decide) (by omega)
  obtain ⟨_, _, _, _, _, _, _, _, _, _, _, _, _, _, _, _, _, _, _, _, _, _, _⟩ := f_co (co := co) (dr := dr) (cc := cc) (a1 := a1) (a2 := a2) (hc)
  refine Cal_of kn_X3_hasParts rfl (Nat.le_of_ble_eq_true rfl) ?_
  refine V_iload_n dX3_hasParts_0 rfl rfl ?_
  refine V_if_lt (tgt := 18) dX3_hasParts_1 (by decide) (fun h1 => ?_) (fun h1 => ?_)
  · refine V_iconst (v := 0) dX3_hasParts_18 (by decide) ?_
    refine V_ireturn dX3_hasParts_19 rfl rfl rfl (by decide) (by decide) ?_
    rw [inR_lt h1] at Kk; exact Kk
  · refine V_iload_n dX3_hasParts_4 rfl rfl (V_iconst (v := 1) dX3_hasParts_5 (by decide) (V_aload_n dX3_hasParts_6 rfl rfl ?_))
    refine V_getI dX3_hasParts_7 fl_X3_53 (by first | assumption | exact ⟨by decide, rfl⟩) ?_
    refine V_ishl dX3_hasParts_10 ?_
    refine V_icmp_ge (tgt := 18) dX3_hasParts_11 (by decide) (fun h11 => ?_) (fun h11 => ?_)
    · refine V_iconst (v := 0) dX3_hasParts_18 (by decide) ?_
      refine V_ireturn dX3_hasParts_19 rfl rfl rfl (by decide) (by decide) ?_
      rw [hP, shl1 (by omega)] at h11
      rw [inR_ge h2 h11] at Kk; exact Kk
    · refine V_iconst (v := 1) dX3_hasParts_14 (by decide) (V_goto (tgt := 19) dX3_hasParts_15 (by decide) ?_)
      refine V_ireturn dX3_hasParts_19 rfl rfl rfl (by decide) (by decide) ?_
      rw [hP, shl1 (by omega)] at h11
      rw [inR_in h2 h1 h11] at Kk; exact Kk
theorem sp_mayPlay (hc : c = 4 ∨ c = 18) (hB : KB K) (hS : SX I c K) {p i : Nat} (hp : p < K 0 0) (hi : i < K 0 1) (Kk : Post (some (.int (b2i (may K p i)))) NC I J (RR co dr cc a1 a2)) : Cal E 2 M_X3_mayPlay [.ref c, .int (nI p), .int (nI i)] NC I J (RR co dr cc a1 a2) Post := by
  have hP := hB.1.1
  have hQ := hB.1.2.1
  obtain ⟨_, _, _, _, _, _, _, _, _, _, _, _, _, _, _, _, _, _, _, _, _, _, _⟩ := f_co (co := co) (dr := dr) (cc := cc) (a1 := a1) (a2 := a2) (hc)
  refine Cal_of kn_X3_mayPlay rfl (Nat.le_of_ble_eq_true rfl) ?_
  refine V_aload_n dX3_mayPlay_0 rfl rfl ?_
  refine V_getR dX3_mayPlay_1 fl_X3_43 (by first | assumption | exact ⟨by decide, rfl⟩) (by first | assumption | rfl) ?_
  refine V_iload_n dX3_mayPlay_4 rfl rfl ?_
  refine V_ial dX3_mayPlay_5 (by first | assumption | exact ⟨by decide, rfl⟩) ⟨rfl, by omega⟩ ?_
  refine V_iload_n dX3_mayPlay_6 rfl rfl ?_
  refine V_cS2i (M' := M_X10_has) (d' := 1) dX3_mayPlay_7 (Or.inr ⟨_, ml_X3_136⟩) kb_X10_has (by first | decide | omega) (by simp [Value.category]) ⟨by decide, by decide⟩ ?_
  rw [(hS i hi).1]
  refine sp_has (Nat.lt_of_lt_of_le (mk_lt _ _) (Nat.pow_le_pow_right (by decide) (by omega))) (by omega) ⟨_, rfl, ?_⟩
  have e : (ableM K i).testBit p = may K p i := by unfold ableM; rw [mk_tb]; simp [hp]
  rw [e]
  refine V_ireturn dX3_mayPlay_10 rfl rfl (b2i_nar _) (by decide) (by decide) ?_
  exact Kk
theorem sp_isSkilled (hc : c = 4 ∨ c = 18) (hB : KB K) (hX : CoX I c K) {p i : Nat} (hp : p < K 0 0) (hi : i < K 0 1) (Kk : Post (some (.int (b2i (skl K p i)))) NC I J (RR co dr cc a1 a2)) : Cal E 1 M_X3_isSkilled [.ref c, .int (nI p), .int (nI i)] NC I J (RR co dr cc a1 a2) Post := by
  have hP := hB.1.1
  have hQ := hB.1.2.1
  obtain ⟨_, _, _, _, _, _, _, _, _, _, _, _, _, _, _, _, _, _, _, _, _, _, _⟩ := f_co (co := co) (dr := dr) (cc := cc) (a1 := a1) (a2 := a2) (hc)
  refine Cal_of kn_X3_isSkilled rfl (Nat.le_of_ble_eq_true rfl) ?_
  have hw : K 5 i ≤ 15 := (hB.2.2.2.1 i hi).2.1
  have ha : andn (K 5 i) (K 2 p) < 2 ^ 4 := andn_lt (by omega)
  refine V_aload_n dX3_isSkilled_0 rfl rfl ?_
  refine V_getR dX3_isSkilled_1 fl_X3_24 (by first | assumption | exact ⟨by decide, rfl⟩) (by first | assumption | rfl) ?_
  refine V_iload_n dX3_isSkilled_4 rfl rfl ?_
  refine V_ial dX3_isSkilled_5 (by first | assumption | exact ⟨by decide, rfl⟩) ⟨rfl, by omega⟩ ?_
  refine V_aload_n dX3_isSkilled_6 rfl rfl ?_
  refine V_getR dX3_isSkilled_7 fl_X3_15 (by first | assumption | exact ⟨by decide, rfl⟩) (by first | assumption | rfl) ?_
  refine V_iload_n dX3_isSkilled_10 rfl rfl ?_
  refine V_ial dX3_isSkilled_11 (by first | assumption | exact ⟨by decide, rfl⟩) ⟨rfl, by omega⟩ ?_
  refine V_iconst (v := (-1)) dX3_isSkilled_12 (by decide) (V_ixor dX3_isSkilled_13 (V_iand dX3_isSkilled_14 ?_))
  refine V_if_ne (tgt := 22) dX3_isSkilled_15 (by decide) (fun h15 => ?_) (fun h15 => ?_)
  · rw [(hX.2.2.2.2.1 i hi).2.1, (hX.2.2.1 p hp).2, andn_nI, ← nI_0, nI_eq (by omega) (by decide)] at h15
    refine V_iconst (v := 0) dX3_isSkilled_22 (by decide) ?_
    refine V_ireturn dX3_isSkilled_23 rfl rfl rfl (by decide) (by decide) ?_
    have e : skl K p i = false := by unfold skl; simp [h15]
    rw [e] at Kk; exact Kk
  · rw [(hX.2.2.2.2.1 i hi).2.1, (hX.2.2.1 p hp).2, andn_nI, ← nI_0, nI_eq (by omega) (by decide)] at h15
    refine V_iconst (v := 1) dX3_isSkilled_18 (by decide) (V_goto (tgt := 23) dX3_isSkilled_19 (by decide) ?_)
    refine V_ireturn dX3_isSkilled_23 rfl rfl rfl (by decide) (by decide) ?_
    have e : skl K p i = true := by unfold skl; simp [h15]
    rw [e] at Kk; exact Kk
end
