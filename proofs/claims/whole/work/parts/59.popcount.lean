/-! Long.bitCount, by digits -/
theorem and_split {a b B k : Nat} (hB : B = 2 ^ k) : a &&& b = ((a % B) &&& (b % B)) + B * ((a / B) &&& (b / B)) := by
  subst hB
  have h1 := Nat.and_mod_two_pow (a := a) (b := b) (n := k)
  have h2 := Nat.and_div_two_pow (a := a) (b := b) (n := k)
  rw [← h1, ← h2]
  exact (Nat.mod_add_div _ _).symm
def m5 : Nat → Nat
  | 0 => 0
  | k + 1 => 1 + 4 * m5 k
def m3 : Nat → Nat
  | 0 => 0
  | k + 1 => 3 + 16 * m3 k
def mf : Nat → Nat
  | 0 => 0
  | k + 1 => 15 + 256 * mf k
def dg (b : Nat) (g : Nat → Nat) : Nat → Nat → Nat
  | 0, _ => 0
  | k + 1, x => g (x % b) + b * dg b g k (x / b)
theorem and_1 (a : Nat) : a &&& 1 = a % 2 := Nat.and_two_pow_sub_one_eq_mod a 1
theorem and_3 (a : Nat) : a &&& 3 = a % 4 := Nat.and_two_pow_sub_one_eq_mod a 2
theorem and_15 (a : Nat) : a &&& 15 = a % 16 := Nat.and_two_pow_sub_one_eq_mod a 4
theorem s1_dg : ∀ k x, x < 4 ^ k → ((x / 2) &&& m5 k) ≤ x ∧ x - ((x / 2) &&& m5 k) = dg 4 (fun d => d - d / 2) k x
  | 0, x, h => by
    have : x = 0 := by simpa using h
    subst this
    simp [m5, dg]
  | k + 1, x, h => by
    have hq : x / 4 < 4 ^ k := by rw [Nat.pow_succ] at h; omega
    obtain ⟨i1, i2⟩ := s1_dg k (x / 4) hq
    have e : ((x / 2) &&& m5 (k + 1)) = (x / 2 % 2) + 4 * ((x / 4 / 2) &&& m5 k) := by
      rw [and_split (k := 2) (B := 4) rfl]
      have q1 : m5 (k + 1) % 4 = 1 := by show (1 + 4 * m5 k) % 4 = 1; omega
      have q2 : m5 (k + 1) / 4 = m5 k := by show (1 + 4 * m5 k) / 4 = m5 k; omega
      rw [q1, q2, and_1, show x / 2 / 4 = x / 4 / 2 by omega, show x / 2 % 4 % 2 = x / 2 % 2 by omega]
    rw [e]
    show _ ∧ _ = (x % 4 - x % 4 / 2) + 4 * dg 4 (fun d => d - d / 2) k (x / 4)
    rw [← i2]
    constructor <;> omega
theorem s2_dg : ∀ k y, y < 16 ^ k → (y &&& m3 k) + ((y / 4) &&& m3 k) = dg 16 (fun d => d % 4 + d / 4) k y
  | 0, y, h => by simp [m3, dg]
  | k + 1, y, h => by
    have hq : y / 16 < 16 ^ k := by rw [Nat.pow_succ] at h; omega
    have i2 := s2_dg k (y / 16) hq
    have q1 : m3 (k + 1) % 16 = 3 := by show (3 + 16 * m3 k) % 16 = 3; omega
    have q2 : m3 (k + 1) / 16 = m3 k := by show (3 + 16 * m3 k) / 16 = m3 k; omega
    have e1 : (y &&& m3 (k + 1)) = y % 4 + 16 * ((y / 16) &&& m3 k) := by
      rw [and_split (k := 4) (B := 16) rfl, q1, q2, and_3]; omega
    have e2 : ((y / 4) &&& m3 (k + 1)) = y / 4 % 4 + 16 * ((y / 16 / 4) &&& m3 k) := by
      rw [and_split (k := 4) (B := 16) rfl, q1, q2, and_3, show y / 4 / 16 = y / 16 / 4 by omega]; omega
    rw [e1, e2]
    show _ = (y % 16 % 4 + y % 16 / 4) + 16 * dg 16 (fun d => d % 4 + d / 4) k (y / 16)
    rw [← i2]
    omega
/-- all digits of base 16 are four at most -/
def d4 : Nat → Nat → Prop
  | 0, z => z = 0
  | k + 1, z => z % 16 ≤ 4 ∧ z / 16 % 16 ≤ 4 ∧ d4 k (z / 256)
theorem d4_low : ∀ {k z : Nat}, d4 k z → z % 16 ≤ 4
  | 0, z, h => by rw [show z = 0 from h]; omega
  | k + 1, z, h => h.1
theorem s3_dg : ∀ k z, d4 k z → (z + z / 16) &&& mf k = dg 256 (fun d => d % 16 + d / 16) k z
  | 0, z, h => by simp [mf, dg]
  | k + 1, z, h => by
    obtain ⟨h1, h2, h3⟩ := h
    have i2 := s3_dg k (z / 256) h3
    have h4 := d4_low h3
    have q1 : mf (k + 1) % 256 = 15 := by show (15 + 256 * mf k) % 256 = 15; omega
    have q2 : mf (k + 1) / 256 = mf k := by show (15 + 256 * mf k) / 256 = mf k; omega
    rw [and_split (k := 8) (B := 256) rfl, q1, q2, and_15]
    show _ = (z % 256 % 16 + z % 256 / 16) + 256 * dg 256 (fun d => d % 16 + d / 16) k (z / 256)
    have e : ∀ a b c f : Nat, a ≤ 4 → b ≤ 4 → c ≤ 4 → ((a + 16 * b + 256 * (c + 16 * f)) + (b + 16 * (c + 16 * f))) / 256 = (c + 16 * f) + f ∧ ((a + 16 * b + 256 * (c + 16 * f)) + (b + 16 * (c + 16 * f))) % 256 % 16 = a + b := by intro a b c f h1 h2 h3; constructor <;> omega
    have z1 : z = z % 16 + 16 * (z / 16 % 16) + 256 * (z / 256 % 16 + 16 * (z / 256 / 16)) := by omega
    have z2 : z / 16 = z / 16 % 16 + 16 * (z / 256 % 16 + 16 * (z / 256 / 16)) := by omega
    have z3 : z / 256 = z / 256 % 16 + 16 * (z / 256 / 16) := by omega
    obtain ⟨e1, e2⟩ := e (z % 16) (z / 16 % 16) (z / 256 % 16) (z / 256 / 16) h1 h2 h4
    rw [← z1, ← z2] at e1 e2
    rw [← z3] at e1
    rw [← i2, e1, e2]
    have y1 : z % 256 % 16 = z % 16 := by omega
    have y2 : z % 256 / 16 = z / 16 % 16 := by omega
    rw [y1, y2]
/-- the digits of base 256 together -/
theorem dg_d4 : ∀ k y, (∀ j, y / 16 ^ j % 16 % 4 ≤ 2 ∧ y / 16 ^ j % 16 / 4 ≤ 2) → d4 k (dg 16 (fun d => d % 4 + d / 4) (2 * k) y)
  | 0, y, h => rfl
  | k + 1, y, h => by
    have a0 := h 0
    have a1 := h 1
    rw [Nat.pow_zero, Nat.div_one] at a0
    rw [Nat.pow_one] at a1
    rw [show 2 * (k + 1) = 2 * k + 1 + 1 by omega]
    show d4 (k + 1) ((y % 16 % 4 + y % 16 / 4) + 16 * ((y / 16 % 16 % 4 + y / 16 % 16 / 4) + 16 * dg 16 (fun d => d % 4 + d / 4) (2 * k) (y / 16 / 16)))
    have g : ∀ a b z : Nat, a ≤ 4 → b ≤ 4 → (a + 16 * (b + 16 * z)) % 16 ≤ 4 ∧ (a + 16 * (b + 16 * z)) / 16 % 16 ≤ 4 := by intro a b z h1 h2; constructor <;> omega
    have g2 := g (y % 16 % 4 + y % 16 / 4) (y / 16 % 16 % 4 + y / 16 % 16 / 4) (dg 16 (fun d => d % 4 + d / 4) (2 * k) (y / 16 / 16)) (by omega) (by omega)
    refine ⟨g2.1, g2.2, ?_⟩
    rw [show ((y % 16 % 4 + y % 16 / 4) + 16 * ((y / 16 % 16 % 4 + y / 16 % 16 / 4) + 16 * dg 16 (fun d => d % 4 + d / 4) (2 * k) (y / 16 / 16))) / 256 = dg 16 (fun d => d % 4 + d / 4) (2 * k) (y / 16 / 16) by omega]
    refine dg_d4 k (y / 16 / 16) (fun j => ?_)
    have := h (j + 2)
    rw [show y / 16 ^ (j + 2) = y / 16 / 16 / 16 ^ j by rw [Nat.div_div_eq_div_mul, Nat.div_div_eq_div_mul, Nat.pow_add]; congr 1; omega] at this
    exact this
theorem dg_s1_small : ∀ k x j, (dg 4 (fun d => d - d / 2) k x) / 4 ^ j % 4 ≤ 2
  | 0, x, j => by simp [dg]
  | k + 1, x, 0 => by
    show ((x % 4 - x % 4 / 2) + 4 * _) / 4 ^ 0 % 4 ≤ 2
    rw [Nat.pow_zero, Nat.div_one]; omega
  | k + 1, x, j + 1 => by
    show ((x % 4 - x % 4 / 2) + 4 * dg 4 (fun d => d - d / 2) k (x / 4)) / 4 ^ (j + 1) % 4 ≤ 2
    rw [Nat.pow_succ, Nat.mul_comm (4 ^ j) 4, ← Nat.div_div_eq_div_mul, show ((x % 4 - x % 4 / 2) + 4 * dg 4 (fun d => d - d / 2) k (x / 4)) / 4 = dg 4 (fun d => d - d / 2) k (x / 4) by omega]
    exact dg_s1_small k (x / 4) j
/-- the bits of a byte -/
def pc8 (x : Nat) : Nat := fb_ct (fun i => x.testBit i) 8
theorem pc8_is : ∀ x, x < 256 → (let y := (x % 4 - x % 4 / 2) + 4 * ((x / 4 % 4 - x / 4 % 4 / 2) + 4 * ((x / 16 % 4 - x / 16 % 4 / 2) + 4 * (x / 64 % 4 - x / 64 % 4 / 2))); (y % 4 + y / 4 % 4) + (y / 16 % 4 + y / 64 % 4) = pc8 x) := by decide +kernel
theorem dg_bytes : ∀ k x, dg 256 (fun d => d % 16 + d / 16) k (dg 16 (fun d => d % 4 + d / 4) (2 * k) (dg 4 (fun d => d - d / 2) (4 * k) x)) = dg 256 pc8 k x
  | 0, x => rfl
  | k + 1, x => by
    have i2 := dg_bytes k (x / 256)
    have p := pc8_is (x % 256) (by omega)
    dsimp only at p
    rw [show 4 * (k + 1) = 4 * k + 1 + 1 + 1 + 1 by omega, show 2 * (k + 1) = 2 * k + 1 + 1 by omega]
    simp only [dg]
    rw [show x / 4 / 4 / 4 / 4 = x / 256 by omega]
    generalize hr : dg 4 (fun d => d - d / 2) (4 * k) (x / 256) = r at *
    have e0 : ((x % 4 - x % 4 / 2) + 4 * ((x / 4 % 4 - x / 4 % 4 / 2) + 4 * ((x / 4 / 4 % 4 - x / 4 / 4 % 4 / 2) + 4 * ((x / 4 / 4 / 4 % 4 - x / 4 / 4 / 4 % 4 / 2) + 4 * r)))) / 16 / 16 = r := by omega
    rw [e0]
    generalize dg 16 (fun d => d % 4 + d / 4) (2 * k) r = z at *
    rw [← p]
    have e1 : ∀ a b : Nat, a ≤ 4 → b ≤ 4 → (a + 16 * (b + 16 * z)) / 256 = z ∧ (a + 16 * (b + 16 * z)) % 256 % 16 + (a + 16 * (b + 16 * z)) % 256 / 16 = a + b := by intro a b h1 h2; constructor <;> omega
    obtain ⟨u1, u2⟩ := e1 ((((x % 4 - x % 4 / 2) + 4 * ((x / 4 % 4 - x / 4 % 4 / 2) + 4 * ((x / 4 / 4 % 4 - x / 4 / 4 % 4 / 2) + 4 * ((x / 4 / 4 / 4 % 4 - x / 4 / 4 / 4 % 4 / 2) + 4 * r)))) % 16 % 4) + (((x % 4 - x % 4 / 2) + 4 * ((x / 4 % 4 - x / 4 % 4 / 2) + 4 * ((x / 4 / 4 % 4 - x / 4 / 4 % 4 / 2) + 4 * ((x / 4 / 4 / 4 % 4 - x / 4 / 4 / 4 % 4 / 2) + 4 * r)))) % 16 / 4)) ((((x % 4 - x % 4 / 2) + 4 * ((x / 4 % 4 - x / 4 % 4 / 2) + 4 * ((x / 4 / 4 % 4 - x / 4 / 4 % 4 / 2) + 4 * ((x / 4 / 4 / 4 % 4 - x / 4 / 4 / 4 % 4 / 2) + 4 * r)))) / 16 % 16 % 4) + (((x % 4 - x % 4 / 2) + 4 * ((x / 4 % 4 - x / 4 % 4 / 2) + 4 * ((x / 4 / 4 % 4 - x / 4 / 4 % 4 / 2) + 4 * ((x / 4 / 4 / 4 % 4 - x / 4 / 4 / 4 % 4 / 2) + 4 * r)))) / 16 % 16 / 4)) (by omega) (by omega)
    rw [u1, u2, i2]
    have v : x / 4 / 4 = x / 16 := by omega
    have v2 : x / 16 / 4 = x / 64 := by omega
    rw [v, v2]
    have w0 : x % 256 % 4 = x % 4 := by omega
    have w1 : x % 256 / 4 % 4 = x / 4 % 4 := by omega
    have w2 : x % 256 / 16 % 4 = x / 16 % 4 := by omega
    have w3 : x % 256 / 64 % 4 = x / 64 % 4 := by omega
    rw [w0, w1, w2, w3]
    generalize x % 4 = c0
    omega
def popL (x : Nat) : Nat := fb_ct (fun i => x.testBit i) 64
theorem pc8_le (x : Nat) : pc8 x ≤ 8 := fb_ct_le _ 8
theorem ct_byte (x : Nat) : pc8 (x % 256) = fb_ct (fun i => x.testBit i) 8 := by
  unfold pc8
  refine fb_ct_cong (fun i hi => ?_)
  rw [show 256 = 2 ^ 8 from rfl, Nat.testBit_mod_two_pow]
  simp [hi]
theorem ct_high (x m : Nat) : ∀ n, fb_ct (fun i => x.testBit (m + i)) n = fb_ct (fun i => (x / 2 ^ m).testBit i) n := fun n => by
  refine fb_ct_cong (fun i _ => ?_)
  rw [Nat.testBit_div_two_pow, Nat.add_comm]
theorem popL_bytes (x : Nat) : popL x = pc8 (x % 256) + (pc8 (x / 256 % 256) + (pc8 (x / 256 / 256 % 256) + (pc8 (x / 256 / 256 / 256 % 256) + (pc8 (x / 256 / 256 / 256 / 256 % 256) + (pc8 (x / 256 / 256 / 256 / 256 / 256 % 256) + (pc8 (x / 256 / 256 / 256 / 256 / 256 / 256 % 256) + pc8 (x / 256 / 256 / 256 / 256 / 256 / 256 / 256 % 256))))))) := by
  have st : ∀ y n, fb_ct (fun i => y.testBit i) (8 + n) = pc8 (y % 256) + fb_ct (fun i => (y / 256).testBit i) n := fun y n => by
    rw [fb_ct_split, ct_high, ct_byte]
  unfold popL
  rw [show 64 = 8 + (8 + (8 + (8 + (8 + (8 + (8 + (8 + 0))))))) from rfl, st, st, st, st, st, st, st, st]
  rfl
