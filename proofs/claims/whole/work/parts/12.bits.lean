/-! Small numbers, bits and sets as Nat -/
def bt (x : Int32) (i : Nat) : Bool := x.toBitVec.getLsbD i
theorem b_ext {x y : Int32} (h : ∀ i, i < 32 → bt x i = bt y i) : x = y := Int32.toBitVec_inj.mp (BitVec.eq_of_getLsbD_eq (fun i hi => h i hi))
theorem b_or (x y : Int32) (i : Nat) : bt (x ||| y) i = (bt x i || bt y i) := by unfold bt; rw [Int32.toBitVec_or, BitVec.getLsbD_or]
theorem b_and (x y : Int32) (i : Nat) : bt (x &&& y) i = (bt x i && bt y i) := by unfold bt; rw [Int32.toBitVec_and, BitVec.getLsbD_and]
theorem b_xor (x y : Int32) (i : Nat) : bt (x ^^^ y) i = (bt x i ^^ bt y i) := by unfold bt; rw [Int32.toBitVec_xor, BitVec.getLsbD_xor]
theorem b_m1 : ∀ i, i < 32 → bt (-1) i = true := by decide +kernel
theorem s_l : ∀ n, n < 32 → ((nI n &&& 31).toBitVec.smod 32).toNat = n := by decide +kernel
theorem bt_nI (a : Nat) {i : Nat} (h : i < 32) : bt (nI a) i = a.testBit i := by
  unfold bt nI
  show (BitVec.ofNat 32 a).getLsbD i = _
  rw [BitVec.getLsbD_ofNat]
  simp [h]
theorem shr_nI {a b : Nat} (ha : a < 2 ^ 31) (hb : b < 32) : nI a >>> (nI b &&& 31) = nI (a / 2 ^ b) := pk_shrN ha _ b (s_l b hb)
theorem shl_nI {a b : Nat} (hb : b < 32) (h : a * 2 ^ b < 2 ^ 32) : nI a <<< (nI b &&& 31) = nI (a * 2 ^ b) := pk_shlN _ b (s_l b hb) h
theorem shl1 {b : Nat} (hb : b < 32) : (1 : Int32) <<< (nI b &&& 31) = nI (2 ^ b) := by
  have h := shl_nI (a := 1) hb (by rw [Nat.one_mul]; exact Nat.pow_lt_pow_right (by decide) hb)
  rw [Nat.one_mul] at h
  exact h
theorem and1_nI (n : Nat) : nI n &&& 1 = nI (n % 2) := fa_mask n 1
theorem bit_nI {a b : Nat} (ha : a < 2 ^ 31) (hb : b < 32) : (nI a >>> (nI b &&& 31)) &&& 1 = if a.testBit b then 1 else 0 := by
  rw [shr_nI ha hb, and1_nI, Nat.testBit_eq_decide_div_mod_eq]
  rcases Nat.mod_two_eq_zero_or_one (a / 2 ^ b) with h | h <;> simp [h, nI_0] <;> rfl
theorem or_nI (a b : Nat) : nI a ||| nI b = nI (a ||| b) := fa_or a b
theorem and_nI (a b : Nat) : nI a &&& nI b = nI (a &&& b) := fa_and a b
def andn (a b : Nat) : Nat := a ^^^ (a &&& b)
theorem andn_tb (a b i : Nat) : (andn a b).testBit i = (a.testBit i && !b.testBit i) := by
  unfold andn
  rw [Nat.testBit_xor, Nat.testBit_and]
  cases a.testBit i <;> cases b.testBit i <;> rfl
theorem andn_nI (a b : Nat) : nI a &&& (nI b ^^^ (-1)) = nI (andn a b) := by
  apply b_ext
  intro i hi
  rw [b_and, b_xor, bt_nI a hi, bt_nI b hi, b_m1 i hi, bt_nI _ hi, andn_tb]
  cases b.testBit i <;> simp
theorem tb_ext {a b : Nat} (h : ∀ i, a.testBit i = b.testBit i) : a = b := Nat.eq_of_testBit_eq h
theorem tb_lt {a n : Nat} (h : ∀ i, n ≤ i → a.testBit i = false) : a < 2 ^ n := Nat.lt_pow_two_of_testBit a h
theorem tb_big {a n i : Nat} (h : a < 2 ^ n) (hi : n ≤ i) : a.testBit i = false := Nat.testBit_lt_two_pow (Nat.lt_of_lt_of_le h (Nat.pow_le_pow_right (by decide) hi))
theorem andn_lt {a b n : Nat} (h : a < 2 ^ n) : andn a b < 2 ^ n := tb_lt (fun i hi => by rw [andn_tb, Nat.testBit_lt_two_pow (Nat.lt_of_lt_of_le h (Nat.pow_le_pow_right (by decide) hi))]; rfl)
theorem pow_tb (n i : Nat) : (2 ^ n).testBit i = decide (n = i) := Nat.testBit_two_pow
/-- the set of those below n of which f holds -/
def mk (f : Nat → Bool) : Nat → Nat
  | 0 => 0
  | n + 1 => if f n then mk f n ||| 2 ^ n else mk f n
theorem mk_tb (f : Nat → Bool) : ∀ n i, (mk f n).testBit i = (decide (i < n) && f i)
  | 0, i => by simp [mk]
  | n + 1, i => by
    unfold mk
    by_cases hf : f n = true
    · rw [if_pos hf, Nat.testBit_or, mk_tb f n i, pow_tb]
      by_cases h1 : i = n
      · subst h1; simp [hf]
      · by_cases h2 : i < n
        · simp [h2, Nat.lt_succ_of_lt h2, Ne.symm h1]
        · have h3 : ¬ i < n + 1 := by omega
          simp [h2, h3, Ne.symm h1]
    · rw [if_neg hf, mk_tb f n i]
      by_cases h1 : i = n
      · subst h1; simp [hf]
      · by_cases h2 : i < n
        · simp [h2, Nat.lt_succ_of_lt h2]
        · have h3 : ¬ i < n + 1 := by omega
          simp [h2, h3]
theorem mk_lt (f : Nat → Bool) (n : Nat) : mk f n < 2 ^ n := tb_lt (fun i hi => by rw [mk_tb]; simp [Nat.not_lt.mpr hi])
theorem mk_ext {f g : Nat → Bool} {n : Nat} (h : ∀ i, i < n → f i = g i) : mk f n = mk g n := tb_ext (fun i => by
  rw [mk_tb, mk_tb]
  by_cases hi : i < n
  · simp [hi, h i hi]
  · simp [hi])
/-- an index: a small number within a row -/
def ix (x : Int32) (j len : Nat) : Prop := x = nI j ∧ j < len
theorem shp_len {k kd len : Nat} (h : shp k = .inl (kd, len)) : len ≤ 8100 := by
  have key : ∀ q ∈ shL, (match q with | .inl (_, l) => decide (l ≤ 8100) | .inr _ => true) = true := by decide +kernel
  unfold shp at h
  rw [List.getD_eq_getElem?_getD] at h
  cases hk : shL[k]? with
  | none => rw [hk] at h; cases h; decide
  | some q =>
    rw [hk] at h
    have h2 := key q (List.mem_of_getElem? hk)
    cases h
    simpa using h2
theorem ix_in {x : Int32} {j len : Nat} (h : ix x j len) (hl : len ≤ 8100) : vp_in x len := by rw [h.1]; exact vp_in_nI h.2 (by omega)
theorem ix_cl {x : Int32} {j len : Nat} (h : ix x j len) (hl : len ≤ 8100) : x.toNatClampNeg = j := by rw [h.1]; exact nI_clamp (by have := h.2; omega)
section
variable {E : En} {d : Nat} {M : Mt} {Post : PT} {pc : Nat} {ls : List (Option Value)} {st : List Value} {n cs sl : Nat} {I : TI} {J : TJ} {R : TR}
theorem V_ial {k len j : Nat} {i : Int32} (hd : decode (mC M) pc = .ok (.iaload, 1)) (hk : at_ n k (.inl (0, len))) (hx : ix i j len) (kk : V E d M Post (pc + 1) ls (.int (I k j) :: st) n cs sl I J R) : V E d M Post pc ls (.int i :: .ref k :: st) n cs sl I J R := V_iaload hd hk (ix_in hx (shp_len hk.2)) (by rw [ix_cl hx (shp_len hk.2)]; exact kk)
theorem V_bal {k len j : Nat} {i : Int32} (hd : decode (mC M) pc = .ok (.baload, 1)) (hk : at_ n k (.inl (1, len))) (hx : ix i j len) (kk : V E d M Post (pc + 1) ls (.int (I k j) :: st) n cs sl I J R) : V E d M Post pc ls (.int i :: .ref k :: st) n cs sl I J R := V_baload hd hk (ix_in hx (shp_len hk.2)) (by rw [ix_cl hx (shp_len hk.2)]; exact kk)
theorem V_lal {k len j : Nat} {i : Int32} (hd : decode (mC M) pc = .ok (.laload, 1)) (hk : at_ n k (.inl (2, len))) (hx : ix i j len) (kk : V E d M Post (pc + 1) ls (.long (J k j) :: st) n cs sl I J R) : V E d M Post pc ls (.int i :: .ref k :: st) n cs sl I J R := V_laload hd hk (ix_in hx (shp_len hk.2)) (by rw [ix_cl hx (shp_len hk.2)]; exact kk)
theorem V_ias {k len j : Nat} {i x : Int32} (hd : decode (mC M) pc = .ok (.iastore, 1)) (hk : at_ n k (.inl (0, len))) (hx : ix i j len) (kk : V E d M Post (pc + 1) ls st n cs sl (up2 I k j x) J R) : V E d M Post pc ls (.int x :: .int i :: .ref k :: st) n cs sl I J R := V_iastore hd hk (ix_in hx (shp_len hk.2)) (by rw [ix_cl hx (shp_len hk.2)]; exact kk)
theorem V_bas {k len j : Nat} {i x : Int32} (hd : decode (mC M) pc = .ok (.bastore, 1)) (hk : at_ n k (.inl (1, len))) (hx : ix i j len) (kk : V E d M Post (pc + 1) ls st n cs sl (up2 I k j x.toInt8.toInt32) J R) : V E d M Post pc ls (.int x :: .int i :: .ref k :: st) n cs sl I J R := V_bastore hd hk (ix_in hx (shp_len hk.2)) (by rw [ix_cl hx (shp_len hk.2)]; exact kk)
theorem V_las {k len j : Nat} {i : Int32} {x : Int64} (hd : decode (mC M) pc = .ok (.lastore, 1)) (hk : at_ n k (.inl (2, len))) (hx : ix i j len) (kk : V E d M Post (pc + 1) ls st n cs sl I (up2 J k j x) R) : V E d M Post pc ls (.long x :: .int i :: .ref k :: st) n cs sl I J R := V_lastore hd hk (ix_in hx (shp_len hk.2)) (by rw [ix_cl hx (shp_len hk.2)]; exact kk)
-- calls that make nothing, by the number of arguments and the answer
def KV (M' : Mt) (ci k : Nat) : Prop := KnC (mY M') (mC M') (mL M') (mR M') ∧ Cond.instanceMethod (mY M') ∈ lw_tbl ∧ Cond.selects (mY M').cls (mY M') (mY M') ∈ lw_tbl ∧ nPar (mY M') k ∧ (vwCl[ci]?).map (fun q => q.1) = some (mY M').cls ∧ mc_ M' = 0 ∧ ms_ M' = 0
def KS (M' : Mt) (k : Nat) : Prop := KnC (mY M') (mC M') (mL M') (mR M') ∧ Cond.static (mY M') ∈ lw_tbl ∧ nPar (mY M') k ∧ mc_ M' = 0 ∧ ms_ M' = 0
def LK (M M' : Mt) (idx : Nat) : Prop := Cond.methodLink (mY M).cls idx (mY M') ∈ lw_tbl ∨ ∃ h, Cond.methodLinkNest (mY M).cls idx (mY M') h ∈ lw_tbl
theorem V_cV {M' : Mt} {d' idx k ci : Nat} {as : List Value} (hd : decode (mC M) pc = .ok (.invokevirtual idx, 3)) (hl : LK M M' idx) (hK : KV M' ci as.length) (hk : at_ n k (.inr ci)) (hd' : d' + 1 ≤ d) (hr : (st.map fun v => v.category).sum ≤ 8) (hm : cs ≤ mc_ M ∧ sl ≤ ms_ M)
    (hC : Cal E d' M' (.ref k :: as) n I J R (fun v n' I' J' R' => V E d M Post (pc + 3) ls (v.toList ++ st) n' cs sl I' J' R')) : V E d M Post pc ls (as.reverse ++ .ref k :: st) n cs sl I J R := by
  obtain ⟨h1, h2, h3, h4, h5, h6, h7⟩ := hK
  refine V_callV hd hl h1 h2 h3 h4 h5 hk hd' hr (by rw [h6, h7]; exact hm) ?_
  rw [h6, h7]
  exact hC
theorem V_cS {M' : Mt} {d' idx : Nat} {as : List Value} (hd : decode (mC M) pc = .ok (.invokestatic idx, 3)) (hl : LK M M' idx) (hK : KS M' as.length) (hd' : d' + 1 ≤ d) (hr : (st.map fun v => v.category).sum ≤ 8) (hm : cs ≤ mc_ M ∧ sl ≤ ms_ M)
    (hC : Cal E d' M' as n I J R (fun v n' I' J' R' => V E d M Post (pc + 3) ls (v.toList ++ st) n' cs sl I' J' R')) : V E d M Post pc ls (as.reverse ++ st) n cs sl I J R := by
  obtain ⟨h1, h2, h4, h6, h7⟩ := hK
  refine V_callS hd hl h1 h2 h4 hd' hr (by rw [h6, h7]; exact hm) ?_
  rw [h6, h7]
  exact hC
theorem Cal.imp {M' : Mt} {as : List Value} {P Q : PT} (h : ∀ v n' I' J' R', P v n' I' J' R' → Q v n' I' J' R') (hC : Cal E d M' as n I J R P) : Cal E d M' as n I J R Q := by
  intro p e ha hc hk s m args below hf happ hpre ht
  obtain ⟨k, o, h1, h2, h3, ⟨v, n', I', J', R', g1, g2, g3⟩, g4⟩ := hC p e ha hc hk s m args below hf happ hpre ht
  exact ⟨k, o, h1, h2, h3, ⟨v, n', I', J', R', g1, h _ _ _ _ _ g2, g3⟩, g4⟩
theorem V_cV0i {M' : Mt} {d' idx k ci : Nat} (hd : decode (mC M) pc = .ok (.invokevirtual idx, 3)) (hl : LK M M' idx) (hK : KV M' ci 0) (hk : at_ n k (.inr ci)) (hd' : d' + 1 ≤ d) (hr : (st.map fun v => v.category).sum ≤ 8) (hm : cs ≤ mc_ M ∧ sl ≤ ms_ M) (hC : Cal E d' M' (.ref k :: []) n I J R (fun v n' I' J' R' => ∃ r : Int32, v = some (.int r) ∧ V E d M Post (pc + 3) ls (.int r :: st) n' cs sl I' J' R')) : V E d M Post pc ls (.ref k :: st) n cs sl I J R := V_cV (as := []) hd hl hK hk hd' hr hm (hC.imp (by rintro v n' I' J' R' ⟨r, rfl, h⟩; exact h))
theorem V_cV0l {M' : Mt} {d' idx k ci : Nat} (hd : decode (mC M) pc = .ok (.invokevirtual idx, 3)) (hl : LK M M' idx) (hK : KV M' ci 0) (hk : at_ n k (.inr ci)) (hd' : d' + 1 ≤ d) (hr : (st.map fun v => v.category).sum ≤ 8) (hm : cs ≤ mc_ M ∧ sl ≤ ms_ M) (hC : Cal E d' M' (.ref k :: []) n I J R (fun v n' I' J' R' => ∃ r : Int64, v = some (.long r) ∧ V E d M Post (pc + 3) ls (.long r :: st) n' cs sl I' J' R')) : V E d M Post pc ls (.ref k :: st) n cs sl I J R := V_cV (as := []) hd hl hK hk hd' hr hm (hC.imp (by rintro v n' I' J' R' ⟨r, rfl, h⟩; exact h))
theorem V_cV0v {M' : Mt} {d' idx k ci : Nat} (hd : decode (mC M) pc = .ok (.invokevirtual idx, 3)) (hl : LK M M' idx) (hK : KV M' ci 0) (hk : at_ n k (.inr ci)) (hd' : d' + 1 ≤ d) (hr : (st.map fun v => v.category).sum ≤ 8) (hm : cs ≤ mc_ M ∧ sl ≤ ms_ M) (hC : Cal E d' M' (.ref k :: []) n I J R (fun v n' I' J' R' => v = none ∧ V E d M Post (pc + 3) ls st n' cs sl I' J' R')) : V E d M Post pc ls (.ref k :: st) n cs sl I J R := V_cV (as := []) hd hl hK hk hd' hr hm (hC.imp (by rintro v n' I' J' R' ⟨rfl, h⟩; exact h))
theorem V_cV1i {M' : Mt} {d' idx k ci : Nat} {a1 : Value} (hd : decode (mC M) pc = .ok (.invokevirtual idx, 3)) (hl : LK M M' idx) (hK : KV M' ci 1) (hk : at_ n k (.inr ci)) (hd' : d' + 1 ≤ d) (hr : (st.map fun v => v.category).sum ≤ 8) (hm : cs ≤ mc_ M ∧ sl ≤ ms_ M) (hC : Cal E d' M' (.ref k :: [a1]) n I J R (fun v n' I' J' R' => ∃ r : Int32, v = some (.int r) ∧ V E d M Post (pc + 3) ls (.int r :: st) n' cs sl I' J' R')) : V E d M Post pc ls (a1 :: .ref k :: st) n cs sl I J R := V_cV (as := [a1]) hd hl hK hk hd' hr hm (hC.imp (by rintro v n' I' J' R' ⟨r, rfl, h⟩; exact h))
theorem V_cS1i {M' : Mt} {d' idx : Nat} {a1 : Value} (hd : decode (mC M) pc = .ok (.invokestatic idx, 3)) (hl : LK M M' idx) (hK : KS M' 1) (hd' : d' + 1 ≤ d) (hr : (st.map fun v => v.category).sum ≤ 8) (hm : cs ≤ mc_ M ∧ sl ≤ ms_ M) (hC : Cal E d' M' [a1] n I J R (fun v n' I' J' R' => ∃ r : Int32, v = some (.int r) ∧ V E d M Post (pc + 3) ls (.int r :: st) n' cs sl I' J' R')) : V E d M Post pc ls (a1 :: st) n cs sl I J R := V_cS (as := [a1]) hd hl hK hd' hr hm (hC.imp (by rintro v n' I' J' R' ⟨r, rfl, h⟩; exact h))
theorem V_cV1l {M' : Mt} {d' idx k ci : Nat} {a1 : Value} (hd : decode (mC M) pc = .ok (.invokevirtual idx, 3)) (hl : LK M M' idx) (hK : KV M' ci 1) (hk : at_ n k (.inr ci)) (hd' : d' + 1 ≤ d) (hr : (st.map fun v => v.category).sum ≤ 8) (hm : cs ≤ mc_ M ∧ sl ≤ ms_ M) (hC : Cal E d' M' (.ref k :: [a1]) n I J R (fun v n' I' J' R' => ∃ r : Int64, v = some (.long r) ∧ V E d M Post (pc + 3) ls (.long r :: st) n' cs sl I' J' R')) : V E d M Post pc ls (a1 :: .ref k :: st) n cs sl I J R := V_cV (as := [a1]) hd hl hK hk hd' hr hm (hC.imp (by rintro v n' I' J' R' ⟨r, rfl, h⟩; exact h))
theorem V_cS1l {M' : Mt} {d' idx : Nat} {a1 : Value} (hd : decode (mC M) pc = .ok (.invokestatic idx, 3)) (hl : LK M M' idx) (hK : KS M' 1) (hd' : d' + 1 ≤ d) (hr : (st.map fun v => v.category).sum ≤ 8) (hm : cs ≤ mc_ M ∧ sl ≤ ms_ M) (hC : Cal E d' M' [a1] n I J R (fun v n' I' J' R' => ∃ r : Int64, v = some (.long r) ∧ V E d M Post (pc + 3) ls (.long r :: st) n' cs sl I' J' R')) : V E d M Post pc ls (a1 :: st) n cs sl I J R := V_cS (as := [a1]) hd hl hK hd' hr hm (hC.imp (by rintro v n' I' J' R' ⟨r, rfl, h⟩; exact h))
theorem V_cV1v {M' : Mt} {d' idx k ci : Nat} {a1 : Value} (hd : decode (mC M) pc = .ok (.invokevirtual idx, 3)) (hl : LK M M' idx) (hK : KV M' ci 1) (hk : at_ n k (.inr ci)) (hd' : d' + 1 ≤ d) (hr : (st.map fun v => v.category).sum ≤ 8) (hm : cs ≤ mc_ M ∧ sl ≤ ms_ M) (hC : Cal E d' M' (.ref k :: [a1]) n I J R (fun v n' I' J' R' => v = none ∧ V E d M Post (pc + 3) ls st n' cs sl I' J' R')) : V E d M Post pc ls (a1 :: .ref k :: st) n cs sl I J R := V_cV (as := [a1]) hd hl hK hk hd' hr hm (hC.imp (by rintro v n' I' J' R' ⟨rfl, h⟩; exact h))
theorem V_cS1v {M' : Mt} {d' idx : Nat} {a1 : Value} (hd : decode (mC M) pc = .ok (.invokestatic idx, 3)) (hl : LK M M' idx) (hK : KS M' 1) (hd' : d' + 1 ≤ d) (hr : (st.map fun v => v.category).sum ≤ 8) (hm : cs ≤ mc_ M ∧ sl ≤ ms_ M) (hC : Cal E d' M' [a1] n I J R (fun v n' I' J' R' => v = none ∧ V E d M Post (pc + 3) ls st n' cs sl I' J' R')) : V E d M Post pc ls (a1 :: st) n cs sl I J R := V_cS (as := [a1]) hd hl hK hd' hr hm (hC.imp (by rintro v n' I' J' R' ⟨rfl, h⟩; exact h))
theorem V_cV2i {M' : Mt} {d' idx k ci : Nat} {a1 a2 : Value} (hd : decode (mC M) pc = .ok (.invokevirtual idx, 3)) (hl : LK M M' idx) (hK : KV M' ci 2) (hk : at_ n k (.inr ci)) (hd' : d' + 1 ≤ d) (hr : (st.map fun v => v.category).sum ≤ 8) (hm : cs ≤ mc_ M ∧ sl ≤ ms_ M) (hC : Cal E d' M' (.ref k :: [a1, a2]) n I J R (fun v n' I' J' R' => ∃ r : Int32, v = some (.int r) ∧ V E d M Post (pc + 3) ls (.int r :: st) n' cs sl I' J' R')) : V E d M Post pc ls (a2 :: a1 :: .ref k :: st) n cs sl I J R := V_cV (as := [a1, a2]) hd hl hK hk hd' hr hm (hC.imp (by rintro v n' I' J' R' ⟨r, rfl, h⟩; exact h))
theorem V_cS2i {M' : Mt} {d' idx : Nat} {a1 a2 : Value} (hd : decode (mC M) pc = .ok (.invokestatic idx, 3)) (hl : LK M M' idx) (hK : KS M' 2) (hd' : d' + 1 ≤ d) (hr : (st.map fun v => v.category).sum ≤ 8) (hm : cs ≤ mc_ M ∧ sl ≤ ms_ M) (hC : Cal E d' M' [a1, a2] n I J R (fun v n' I' J' R' => ∃ r : Int32, v = some (.int r) ∧ V E d M Post (pc + 3) ls (.int r :: st) n' cs sl I' J' R')) : V E d M Post pc ls (a2 :: a1 :: st) n cs sl I J R := V_cS (as := [a1, a2]) hd hl hK hd' hr hm (hC.imp (by rintro v n' I' J' R' ⟨r, rfl, h⟩; exact h))
theorem V_cV2l {M' : Mt} {d' idx k ci : Nat} {a1 a2 : Value} (hd : decode (mC M) pc = .ok (.invokevirtual idx, 3)) (hl : LK M M' idx) (hK : KV M' ci 2) (hk : at_ n k (.inr ci)) (hd' : d' + 1 ≤ d) (hr : (st.map fun v => v.category).sum ≤ 8) (hm : cs ≤ mc_ M ∧ sl ≤ ms_ M) (hC : Cal E d' M' (.ref k :: [a1, a2]) n I J R (fun v n' I' J' R' => ∃ r : Int64, v = some (.long r) ∧ V E d M Post (pc + 3) ls (.long r :: st) n' cs sl I' J' R')) : V E d M Post pc ls (a2 :: a1 :: .ref k :: st) n cs sl I J R := V_cV (as := [a1, a2]) hd hl hK hk hd' hr hm (hC.imp (by rintro v n' I' J' R' ⟨r, rfl, h⟩; exact h))
theorem V_cS2l {M' : Mt} {d' idx : Nat} {a1 a2 : Value} (hd : decode (mC M) pc = .ok (.invokestatic idx, 3)) (hl : LK M M' idx) (hK : KS M' 2) (hd' : d' + 1 ≤ d) (hr : (st.map fun v => v.category).sum ≤ 8) (hm : cs ≤ mc_ M ∧ sl ≤ ms_ M) (hC : Cal E d' M' [a1, a2] n I J R (fun v n' I' J' R' => ∃ r : Int64, v = some (.long r) ∧ V E d M Post (pc + 3) ls (.long r :: st) n' cs sl I' J' R')) : V E d M Post pc ls (a2 :: a1 :: st) n cs sl I J R := V_cS (as := [a1, a2]) hd hl hK hd' hr hm (hC.imp (by rintro v n' I' J' R' ⟨r, rfl, h⟩; exact h))
theorem V_cV2v {M' : Mt} {d' idx k ci : Nat} {a1 a2 : Value} (hd : decode (mC M) pc = .ok (.invokevirtual idx, 3)) (hl : LK M M' idx) (hK : KV M' ci 2) (hk : at_ n k (.inr ci)) (hd' : d' + 1 ≤ d) (hr : (st.map fun v => v.category).sum ≤ 8) (hm : cs ≤ mc_ M ∧ sl ≤ ms_ M) (hC : Cal E d' M' (.ref k :: [a1, a2]) n I J R (fun v n' I' J' R' => v = none ∧ V E d M Post (pc + 3) ls st n' cs sl I' J' R')) : V E d M Post pc ls (a2 :: a1 :: .ref k :: st) n cs sl I J R := V_cV (as := [a1, a2]) hd hl hK hk hd' hr hm (hC.imp (by rintro v n' I' J' R' ⟨rfl, h⟩; exact h))
theorem V_cS2v {M' : Mt} {d' idx : Nat} {a1 a2 : Value} (hd : decode (mC M) pc = .ok (.invokestatic idx, 3)) (hl : LK M M' idx) (hK : KS M' 2) (hd' : d' + 1 ≤ d) (hr : (st.map fun v => v.category).sum ≤ 8) (hm : cs ≤ mc_ M ∧ sl ≤ ms_ M) (hC : Cal E d' M' [a1, a2] n I J R (fun v n' I' J' R' => v = none ∧ V E d M Post (pc + 3) ls st n' cs sl I' J' R')) : V E d M Post pc ls (a2 :: a1 :: st) n cs sl I J R := V_cS (as := [a1, a2]) hd hl hK hd' hr hm (hC.imp (by rintro v n' I' J' R' ⟨rfl, h⟩; exact h))
theorem V_cV3i {M' : Mt} {d' idx k ci : Nat} {a1 a2 a3 : Value} (hd : decode (mC M) pc = .ok (.invokevirtual idx, 3)) (hl : LK M M' idx) (hK : KV M' ci 3) (hk : at_ n k (.inr ci)) (hd' : d' + 1 ≤ d) (hr : (st.map fun v => v.category).sum ≤ 8) (hm : cs ≤ mc_ M ∧ sl ≤ ms_ M) (hC : Cal E d' M' (.ref k :: [a1, a2, a3]) n I J R (fun v n' I' J' R' => ∃ r : Int32, v = some (.int r) ∧ V E d M Post (pc + 3) ls (.int r :: st) n' cs sl I' J' R')) : V E d M Post pc ls (a3 :: a2 :: a1 :: .ref k :: st) n cs sl I J R := V_cV (as := [a1, a2, a3]) hd hl hK hk hd' hr hm (hC.imp (by rintro v n' I' J' R' ⟨r, rfl, h⟩; exact h))
theorem V_cS3i {M' : Mt} {d' idx : Nat} {a1 a2 a3 : Value} (hd : decode (mC M) pc = .ok (.invokestatic idx, 3)) (hl : LK M M' idx) (hK : KS M' 3) (hd' : d' + 1 ≤ d) (hr : (st.map fun v => v.category).sum ≤ 8) (hm : cs ≤ mc_ M ∧ sl ≤ ms_ M) (hC : Cal E d' M' [a1, a2, a3] n I J R (fun v n' I' J' R' => ∃ r : Int32, v = some (.int r) ∧ V E d M Post (pc + 3) ls (.int r :: st) n' cs sl I' J' R')) : V E d M Post pc ls (a3 :: a2 :: a1 :: st) n cs sl I J R := V_cS (as := [a1, a2, a3]) hd hl hK hd' hr hm (hC.imp (by rintro v n' I' J' R' ⟨r, rfl, h⟩; exact h))
theorem V_cV3l {M' : Mt} {d' idx k ci : Nat} {a1 a2 a3 : Value} (hd : decode (mC M) pc = .ok (.invokevirtual idx, 3)) (hl : LK M M' idx) (hK : KV M' ci 3) (hk : at_ n k (.inr ci)) (hd' : d' + 1 ≤ d) (hr : (st.map fun v => v.category).sum ≤ 8) (hm : cs ≤ mc_ M ∧ sl ≤ ms_ M) (hC : Cal E d' M' (.ref k :: [a1, a2, a3]) n I J R (fun v n' I' J' R' => ∃ r : Int64, v = some (.long r) ∧ V E d M Post (pc + 3) ls (.long r :: st) n' cs sl I' J' R')) : V E d M Post pc ls (a3 :: a2 :: a1 :: .ref k :: st) n cs sl I J R := V_cV (as := [a1, a2, a3]) hd hl hK hk hd' hr hm (hC.imp (by rintro v n' I' J' R' ⟨r, rfl, h⟩; exact h))
theorem V_cS3l {M' : Mt} {d' idx : Nat} {a1 a2 a3 : Value} (hd : decode (mC M) pc = .ok (.invokestatic idx, 3)) (hl : LK M M' idx) (hK : KS M' 3) (hd' : d' + 1 ≤ d) (hr : (st.map fun v => v.category).sum ≤ 8) (hm : cs ≤ mc_ M ∧ sl ≤ ms_ M) (hC : Cal E d' M' [a1, a2, a3] n I J R (fun v n' I' J' R' => ∃ r : Int64, v = some (.long r) ∧ V E d M Post (pc + 3) ls (.long r :: st) n' cs sl I' J' R')) : V E d M Post pc ls (a3 :: a2 :: a1 :: st) n cs sl I J R := V_cS (as := [a1, a2, a3]) hd hl hK hd' hr hm (hC.imp (by rintro v n' I' J' R' ⟨r, rfl, h⟩; exact h))
theorem V_cV3v {M' : Mt} {d' idx k ci : Nat} {a1 a2 a3 : Value} (hd : decode (mC M) pc = .ok (.invokevirtual idx, 3)) (hl : LK M M' idx) (hK : KV M' ci 3) (hk : at_ n k (.inr ci)) (hd' : d' + 1 ≤ d) (hr : (st.map fun v => v.category).sum ≤ 8) (hm : cs ≤ mc_ M ∧ sl ≤ ms_ M) (hC : Cal E d' M' (.ref k :: [a1, a2, a3]) n I J R (fun v n' I' J' R' => v = none ∧ V E d M Post (pc + 3) ls st n' cs sl I' J' R')) : V E d M Post pc ls (a3 :: a2 :: a1 :: .ref k :: st) n cs sl I J R := V_cV (as := [a1, a2, a3]) hd hl hK hk hd' hr hm (hC.imp (by rintro v n' I' J' R' ⟨rfl, h⟩; exact h))
theorem V_cS3v {M' : Mt} {d' idx : Nat} {a1 a2 a3 : Value} (hd : decode (mC M) pc = .ok (.invokestatic idx, 3)) (hl : LK M M' idx) (hK : KS M' 3) (hd' : d' + 1 ≤ d) (hr : (st.map fun v => v.category).sum ≤ 8) (hm : cs ≤ mc_ M ∧ sl ≤ ms_ M) (hC : Cal E d' M' [a1, a2, a3] n I J R (fun v n' I' J' R' => v = none ∧ V E d M Post (pc + 3) ls st n' cs sl I' J' R')) : V E d M Post pc ls (a3 :: a2 :: a1 :: st) n cs sl I J R := V_cS (as := [a1, a2, a3]) hd hl hK hd' hr hm (hC.imp (by rintro v n' I' J' R' ⟨rfl, h⟩; exact h))
theorem V_cV4i {M' : Mt} {d' idx k ci : Nat} {a1 a2 a3 a4 : Value} (hd : decode (mC M) pc = .ok (.invokevirtual idx, 3)) (hl : LK M M' idx) (hK : KV M' ci 4) (hk : at_ n k (.inr ci)) (hd' : d' + 1 ≤ d) (hr : (st.map fun v => v.category).sum ≤ 8) (hm : cs ≤ mc_ M ∧ sl ≤ ms_ M) (hC : Cal E d' M' (.ref k :: [a1, a2, a3, a4]) n I J R (fun v n' I' J' R' => ∃ r : Int32, v = some (.int r) ∧ V E d M Post (pc + 3) ls (.int r :: st) n' cs sl I' J' R')) : V E d M Post pc ls (a4 :: a3 :: a2 :: a1 :: .ref k :: st) n cs sl I J R := V_cV (as := [a1, a2, a3, a4]) hd hl hK hk hd' hr hm (hC.imp (by rintro v n' I' J' R' ⟨r, rfl, h⟩; exact h))
theorem V_cS4i {M' : Mt} {d' idx : Nat} {a1 a2 a3 a4 : Value} (hd : decode (mC M) pc = .ok (.invokestatic idx, 3)) (hl : LK M M' idx) (hK : KS M' 4) (hd' : d' + 1 ≤ d) (hr : (st.map fun v => v.category).sum ≤ 8) (hm : cs ≤ mc_ M ∧ sl ≤ ms_ M) (hC : Cal E d' M' [a1, a2, a3, a4] n I J R (fun v n' I' J' R' => ∃ r : Int32, v = some (.int r) ∧ V E d M Post (pc + 3) ls (.int r :: st) n' cs sl I' J' R')) : V E d M Post pc ls (a4 :: a3 :: a2 :: a1 :: st) n cs sl I J R := V_cS (as := [a1, a2, a3, a4]) hd hl hK hd' hr hm (hC.imp (by rintro v n' I' J' R' ⟨r, rfl, h⟩; exact h))
theorem V_cV4l {M' : Mt} {d' idx k ci : Nat} {a1 a2 a3 a4 : Value} (hd : decode (mC M) pc = .ok (.invokevirtual idx, 3)) (hl : LK M M' idx) (hK : KV M' ci 4) (hk : at_ n k (.inr ci)) (hd' : d' + 1 ≤ d) (hr : (st.map fun v => v.category).sum ≤ 8) (hm : cs ≤ mc_ M ∧ sl ≤ ms_ M) (hC : Cal E d' M' (.ref k :: [a1, a2, a3, a4]) n I J R (fun v n' I' J' R' => ∃ r : Int64, v = some (.long r) ∧ V E d M Post (pc + 3) ls (.long r :: st) n' cs sl I' J' R')) : V E d M Post pc ls (a4 :: a3 :: a2 :: a1 :: .ref k :: st) n cs sl I J R := V_cV (as := [a1, a2, a3, a4]) hd hl hK hk hd' hr hm (hC.imp (by rintro v n' I' J' R' ⟨r, rfl, h⟩; exact h))
theorem V_cS4l {M' : Mt} {d' idx : Nat} {a1 a2 a3 a4 : Value} (hd : decode (mC M) pc = .ok (.invokestatic idx, 3)) (hl : LK M M' idx) (hK : KS M' 4) (hd' : d' + 1 ≤ d) (hr : (st.map fun v => v.category).sum ≤ 8) (hm : cs ≤ mc_ M ∧ sl ≤ ms_ M) (hC : Cal E d' M' [a1, a2, a3, a4] n I J R (fun v n' I' J' R' => ∃ r : Int64, v = some (.long r) ∧ V E d M Post (pc + 3) ls (.long r :: st) n' cs sl I' J' R')) : V E d M Post pc ls (a4 :: a3 :: a2 :: a1 :: st) n cs sl I J R := V_cS (as := [a1, a2, a3, a4]) hd hl hK hd' hr hm (hC.imp (by rintro v n' I' J' R' ⟨r, rfl, h⟩; exact h))
theorem V_cV4v {M' : Mt} {d' idx k ci : Nat} {a1 a2 a3 a4 : Value} (hd : decode (mC M) pc = .ok (.invokevirtual idx, 3)) (hl : LK M M' idx) (hK : KV M' ci 4) (hk : at_ n k (.inr ci)) (hd' : d' + 1 ≤ d) (hr : (st.map fun v => v.category).sum ≤ 8) (hm : cs ≤ mc_ M ∧ sl ≤ ms_ M) (hC : Cal E d' M' (.ref k :: [a1, a2, a3, a4]) n I J R (fun v n' I' J' R' => v = none ∧ V E d M Post (pc + 3) ls st n' cs sl I' J' R')) : V E d M Post pc ls (a4 :: a3 :: a2 :: a1 :: .ref k :: st) n cs sl I J R := V_cV (as := [a1, a2, a3, a4]) hd hl hK hk hd' hr hm (hC.imp (by rintro v n' I' J' R' ⟨rfl, h⟩; exact h))
theorem V_cS4v {M' : Mt} {d' idx : Nat} {a1 a2 a3 a4 : Value} (hd : decode (mC M) pc = .ok (.invokestatic idx, 3)) (hl : LK M M' idx) (hK : KS M' 4) (hd' : d' + 1 ≤ d) (hr : (st.map fun v => v.category).sum ≤ 8) (hm : cs ≤ mc_ M ∧ sl ≤ ms_ M) (hC : Cal E d' M' [a1, a2, a3, a4] n I J R (fun v n' I' J' R' => v = none ∧ V E d M Post (pc + 3) ls st n' cs sl I' J' R')) : V E d M Post pc ls (a4 :: a3 :: a2 :: a1 :: st) n cs sl I J R := V_cS (as := [a1, a2, a3, a4]) hd hl hK hd' hr hm (hC.imp (by rintro v n' I' J' R' ⟨rfl, h⟩; exact h))
theorem V_cV5i {M' : Mt} {d' idx k ci : Nat} {a1 a2 a3 a4 a5 : Value} (hd : decode (mC M) pc = .ok (.invokevirtual idx, 3)) (hl : LK M M' idx) (hK : KV M' ci 5) (hk : at_ n k (.inr ci)) (hd' : d' + 1 ≤ d) (hr : (st.map fun v => v.category).sum ≤ 8) (hm : cs ≤ mc_ M ∧ sl ≤ ms_ M) (hC : Cal E d' M' (.ref k :: [a1, a2, a3, a4, a5]) n I J R (fun v n' I' J' R' => ∃ r : Int32, v = some (.int r) ∧ V E d M Post (pc + 3) ls (.int r :: st) n' cs sl I' J' R')) : V E d M Post pc ls (a5 :: a4 :: a3 :: a2 :: a1 :: .ref k :: st) n cs sl I J R := V_cV (as := [a1, a2, a3, a4, a5]) hd hl hK hk hd' hr hm (hC.imp (by rintro v n' I' J' R' ⟨r, rfl, h⟩; exact h))
theorem V_cS5i {M' : Mt} {d' idx : Nat} {a1 a2 a3 a4 a5 : Value} (hd : decode (mC M) pc = .ok (.invokestatic idx, 3)) (hl : LK M M' idx) (hK : KS M' 5) (hd' : d' + 1 ≤ d) (hr : (st.map fun v => v.category).sum ≤ 8) (hm : cs ≤ mc_ M ∧ sl ≤ ms_ M) (hC : Cal E d' M' [a1, a2, a3, a4, a5] n I J R (fun v n' I' J' R' => ∃ r : Int32, v = some (.int r) ∧ V E d M Post (pc + 3) ls (.int r :: st) n' cs sl I' J' R')) : V E d M Post pc ls (a5 :: a4 :: a3 :: a2 :: a1 :: st) n cs sl I J R := V_cS (as := [a1, a2, a3, a4, a5]) hd hl hK hd' hr hm (hC.imp (by rintro v n' I' J' R' ⟨r, rfl, h⟩; exact h))
theorem V_cV5l {M' : Mt} {d' idx k ci : Nat} {a1 a2 a3 a4 a5 : Value} (hd : decode (mC M) pc = .ok (.invokevirtual idx, 3)) (hl : LK M M' idx) (hK : KV M' ci 5) (hk : at_ n k (.inr ci)) (hd' : d' + 1 ≤ d) (hr : (st.map fun v => v.category).sum ≤ 8) (hm : cs ≤ mc_ M ∧ sl ≤ ms_ M) (hC : Cal E d' M' (.ref k :: [a1, a2, a3, a4, a5]) n I J R (fun v n' I' J' R' => ∃ r : Int64, v = some (.long r) ∧ V E d M Post (pc + 3) ls (.long r :: st) n' cs sl I' J' R')) : V E d M Post pc ls (a5 :: a4 :: a3 :: a2 :: a1 :: .ref k :: st) n cs sl I J R := V_cV (as := [a1, a2, a3, a4, a5]) hd hl hK hk hd' hr hm (hC.imp (by rintro v n' I' J' R' ⟨r, rfl, h⟩; exact h))
theorem V_cS5l {M' : Mt} {d' idx : Nat} {a1 a2 a3 a4 a5 : Value} (hd : decode (mC M) pc = .ok (.invokestatic idx, 3)) (hl : LK M M' idx) (hK : KS M' 5) (hd' : d' + 1 ≤ d) (hr : (st.map fun v => v.category).sum ≤ 8) (hm : cs ≤ mc_ M ∧ sl ≤ ms_ M) (hC : Cal E d' M' [a1, a2, a3, a4, a5] n I J R (fun v n' I' J' R' => ∃ r : Int64, v = some (.long r) ∧ V E d M Post (pc + 3) ls (.long r :: st) n' cs sl I' J' R')) : V E d M Post pc ls (a5 :: a4 :: a3 :: a2 :: a1 :: st) n cs sl I J R := V_cS (as := [a1, a2, a3, a4, a5]) hd hl hK hd' hr hm (hC.imp (by rintro v n' I' J' R' ⟨r, rfl, h⟩; exact h))
theorem V_cV5v {M' : Mt} {d' idx k ci : Nat} {a1 a2 a3 a4 a5 : Value} (hd : decode (mC M) pc = .ok (.invokevirtual idx, 3)) (hl : LK M M' idx) (hK : KV M' ci 5) (hk : at_ n k (.inr ci)) (hd' : d' + 1 ≤ d) (hr : (st.map fun v => v.category).sum ≤ 8) (hm : cs ≤ mc_ M ∧ sl ≤ ms_ M) (hC : Cal E d' M' (.ref k :: [a1, a2, a3, a4, a5]) n I J R (fun v n' I' J' R' => v = none ∧ V E d M Post (pc + 3) ls st n' cs sl I' J' R')) : V E d M Post pc ls (a5 :: a4 :: a3 :: a2 :: a1 :: .ref k :: st) n cs sl I J R := V_cV (as := [a1, a2, a3, a4, a5]) hd hl hK hk hd' hr hm (hC.imp (by rintro v n' I' J' R' ⟨rfl, h⟩; exact h))
theorem V_cS5v {M' : Mt} {d' idx : Nat} {a1 a2 a3 a4 a5 : Value} (hd : decode (mC M) pc = .ok (.invokestatic idx, 3)) (hl : LK M M' idx) (hK : KS M' 5) (hd' : d' + 1 ≤ d) (hr : (st.map fun v => v.category).sum ≤ 8) (hm : cs ≤ mc_ M ∧ sl ≤ ms_ M) (hC : Cal E d' M' [a1, a2, a3, a4, a5] n I J R (fun v n' I' J' R' => v = none ∧ V E d M Post (pc + 3) ls st n' cs sl I' J' R')) : V E d M Post pc ls (a5 :: a4 :: a3 :: a2 :: a1 :: st) n cs sl I J R := V_cS (as := [a1, a2, a3, a4, a5]) hd hl hK hd' hr hm (hC.imp (by rintro v n' I' J' R' ⟨rfl, h⟩; exact h))
end
