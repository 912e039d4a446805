def luS (x : Int64) (y : Int32) : Int64 := (x.toUInt64 >>> (y.toInt64.toUInt64 &&& Int64.toUInt64 63)).toInt64
theorem luS_lN {n k : Nat} (hn : n < 2 ^ 64) {y : Int32} (hk : k < 64) (hy : (y.toInt64.toUInt64 &&& Int64.toUInt64 63) = UInt64.ofNat k) : luS (lN n) y = lN (n / 2 ^ k) := by
  unfold luS
  rw [hy]
  refine Int64.toBitVec_inj.mp (BitVec.eq_of_toNat_eq ?_)
  show ((UInt64.ofNat n) >>> UInt64.ofNat k).toNat = (BitVec.ofNat 64 (n / 2 ^ k)).toNat
  rw [UInt64.toNat_shiftRight, UInt64.toNat_ofNat_of_lt' hn, UInt64.toNat_ofNat_of_lt' (by show k < 2 ^ 64; omega), BitVec.toNat_ofNat, Nat.mod_eq_of_lt hk, Nat.shiftRight_eq_div_pow, Nat.mod_eq_of_lt (Nat.lt_of_le_of_lt (Nat.div_le_self _ _) hn)]
def bcL (x : Int64) : Int32 :=
  let a := x - (luS x 1 &&& 6148914691236517205)
  let b := (a &&& 3689348814741910323) + (luS a 2 &&& 3689348814741910323)
  let c := (b + luS b 4) &&& 1085102592571150095
  let d := c + luS c 8
  let e := d + luS d 16
  let f := e + luS e 32
  f.toInt32 &&& 127
theorem dv256 {a Q : Nat} (h : a < 256) : (a + 256 * Q) / 256 = Q := by omega
theorem dv16 {a Q : Nat} (h : a < 65536) : (a + 65536 * Q) / 65536 = Q := by omega
theorem dv32 {a Q : Nat} (h : a < 4294967296) : (a + 4294967296 * Q) / 4294967296 = Q := by omega
theorem fold_bytes {p0 p1 p2 p3 p4 p5 p6 p7 : Nat} (h0 : p0 ≤ 8) (h1 : p1 ≤ 8) (h2 : p2 ≤ 8) (h3 : p3 ≤ 8) (h4 : p4 ≤ 8) (h5 : p5 ≤ 8) (h6 : p6 ≤ 8) (h7 : p7 ≤ 8) {w w1 w2 w3 : Nat} (e : w = p0 + 256 * (p1 + 256 * (p2 + 256 * (p3 + 256 * (p4 + 256 * (p5 + 256 * (p6 + 256 * (p7 + 256 * 0)))))))) (e1 : w1 = w + w / 256) (e2 : w2 = w1 + w1 / 65536) (e3 : w3 = w2 + w2 / 4294967296) : w3 % 128 = p0 + (p1 + (p2 + (p3 + (p4 + (p5 + (p6 + p7)))))) := by
  have a1 : w / 256 = p1 + 256 * (p2 + 256 * (p3 + 256 * (p4 + 256 * (p5 + 256 * (p6 + 256 * (p7 + 256 * 0)))))) := by rw [e]; exact dv256 (by omega)
  rw [a1] at e1
  clear a1
  have b1 : w1 = ((p0 + p1) + 256 * (p1 + p2)) + 65536 * ((p2 + p3) + 256 * ((p3 + p4) + 256 * ((p4 + p5) + 256 * ((p5 + p6) + 256 * ((p6 + p7) + 256 * p7))))) := by rw [e1, e]; clear h0 h1 h2 h3 h4 h5 h6 h7 e e1 e2 e3; omega
  have a2 : w1 / 65536 = (p2 + p3) + 256 * ((p3 + p4) + 256 * ((p4 + p5) + 256 * ((p5 + p6) + 256 * ((p6 + p7) + 256 * p7)))) := by rw [b1]; clear e e1 e2 e3 b1; exact dv16 (by omega)
  rw [a2] at e2
  clear a2
  have b2 : w2 = ((p0 + p1 + p2 + p3) + 256 * (p1 + p2 + p3 + p4) + 65536 * (p2 + p3 + p4 + p5) + 16777216 * (p3 + p4 + p5 + p6)) + 4294967296 * ((p4 + p5 + p6 + p7) + 256 * ((p5 + p6 + p7) + 256 * ((p6 + p7) + 256 * p7))) := by rw [e2, b1]; clear h0 h1 h2 h3 h4 h5 h6 h7 e e1 e2 e3 b1; omega
  have a3 : w2 / 4294967296 = (p4 + p5 + p6 + p7) + 256 * ((p5 + p6 + p7) + 256 * ((p6 + p7) + 256 * p7)) := by rw [b2]; clear e e1 e2 e3 b1 b2; exact dv32 (by omega)
  rw [a3] at e3
  clear a3
  have b3 : w3 = (p0 + (p1 + (p2 + (p3 + (p4 + (p5 + (p6 + p7))))))) + 128 * (2 * ((p1 + p2 + p3 + p4) + 256 * (p2 + p3 + p4 + p5) + 65536 * (p3 + p4 + p5 + p6) + 16777216 * ((p4 + p5 + p6 + p7) + 256 * ((p5 + p6 + p7) + 256 * ((p6 + p7) + 256 * p7))) + ((p5 + p6 + p7) + 256 * ((p6 + p7) + 256 * p7)))) := by rw [e3, b2]; clear h0 h1 h2 h3 h4 h5 h6 h7 e e1 e2 e3 b1 b2; omega
  rw [b3, Nat.add_mul_mod_self_left]
  exact Nat.mod_eq_of_lt (by clear e e1 e2 e3 b1 b2 b3; omega)
