/-! A branch whose way is known -/
section
variable {E : En} {d : Nat} {M : Mt} {Post : PT} {pc : Nat} {ls : List (Option Value)} {st : List Value} {n cs sl : Nat} {I : TI} {J : TJ} {R : TR}
theorem V_if_eq_t {x : Int32} {off : Int} {tgt : Nat} (hd : decode (mC M) pc = .ok (.ifCond .eq off, 3)) (ht : (pc : Int) + off = (tgt : Int)) (h : x = 0) (k : V E d M Post tgt ls st n cs sl I J R) : V E d M Post pc ls (.int x :: st) n cs sl I J R := V_if_eq hd ht (fun _ => k) (fun q => absurd h q)
theorem V_if_eq_f {x : Int32} {off : Int} {tgt : Nat} (hd : decode (mC M) pc = .ok (.ifCond .eq off, 3)) (ht : (pc : Int) + off = (tgt : Int)) (h : ¬ x = 0) (k : V E d M Post (pc + 3) ls st n cs sl I J R) : V E d M Post pc ls (.int x :: st) n cs sl I J R := V_if_eq hd ht (fun q => absurd q h) (fun _ => k)
theorem V_icmp_eq_t {x y : Int32} {off : Int} {tgt : Nat} (hd : decode (mC M) pc = .ok (.if_icmp .eq off, 3)) (ht : (pc : Int) + off = (tgt : Int)) (h : x = y) (k : V E d M Post tgt ls st n cs sl I J R) : V E d M Post pc ls (.int y :: .int x :: st) n cs sl I J R := V_icmp_eq hd ht (fun _ => k) (fun q => absurd h q)
theorem V_icmp_eq_f {x y : Int32} {off : Int} {tgt : Nat} (hd : decode (mC M) pc = .ok (.if_icmp .eq off, 3)) (ht : (pc : Int) + off = (tgt : Int)) (h : ¬ x = y) (k : V E d M Post (pc + 3) ls st n cs sl I J R) : V E d M Post pc ls (.int y :: .int x :: st) n cs sl I J R := V_icmp_eq hd ht (fun q => absurd q h) (fun _ => k)
theorem V_if_ne_t {x : Int32} {off : Int} {tgt : Nat} (hd : decode (mC M) pc = .ok (.ifCond .ne off, 3)) (ht : (pc : Int) + off = (tgt : Int)) (h : ¬ x = 0) (k : V E d M Post tgt ls st n cs sl I J R) : V E d M Post pc ls (.int x :: st) n cs sl I J R := V_if_ne hd ht (fun _ => k) (fun q => absurd q h)
theorem V_if_ne_f {x : Int32} {off : Int} {tgt : Nat} (hd : decode (mC M) pc = .ok (.ifCond .ne off, 3)) (ht : (pc : Int) + off = (tgt : Int)) (h : x = 0) (k : V E d M Post (pc + 3) ls st n cs sl I J R) : V E d M Post pc ls (.int x :: st) n cs sl I J R := V_if_ne hd ht (fun q => absurd h q) (fun _ => k)
theorem V_icmp_ne_t {x y : Int32} {off : Int} {tgt : Nat} (hd : decode (mC M) pc = .ok (.if_icmp .ne off, 3)) (ht : (pc : Int) + off = (tgt : Int)) (h : ¬ x = y) (k : V E d M Post tgt ls st n cs sl I J R) : V E d M Post pc ls (.int y :: .int x :: st) n cs sl I J R := V_icmp_ne hd ht (fun _ => k) (fun q => absurd q h)
theorem V_icmp_ne_f {x y : Int32} {off : Int} {tgt : Nat} (hd : decode (mC M) pc = .ok (.if_icmp .ne off, 3)) (ht : (pc : Int) + off = (tgt : Int)) (h : x = y) (k : V E d M Post (pc + 3) ls st n cs sl I J R) : V E d M Post pc ls (.int y :: .int x :: st) n cs sl I J R := V_icmp_ne hd ht (fun q => absurd h q) (fun _ => k)
theorem V_if_lt_t {x : Int32} {off : Int} {tgt : Nat} (hd : decode (mC M) pc = .ok (.ifCond .lt off, 3)) (ht : (pc : Int) + off = (tgt : Int)) (h : x < 0) (k : V E d M Post tgt ls st n cs sl I J R) : V E d M Post pc ls (.int x :: st) n cs sl I J R := V_if_lt hd ht (fun _ => k) (fun q => absurd h q)
theorem V_if_lt_f {x : Int32} {off : Int} {tgt : Nat} (hd : decode (mC M) pc = .ok (.ifCond .lt off, 3)) (ht : (pc : Int) + off = (tgt : Int)) (h : ¬ x < 0) (k : V E d M Post (pc + 3) ls st n cs sl I J R) : V E d M Post pc ls (.int x :: st) n cs sl I J R := V_if_lt hd ht (fun q => absurd q h) (fun _ => k)
theorem V_icmp_lt_t {x y : Int32} {off : Int} {tgt : Nat} (hd : decode (mC M) pc = .ok (.if_icmp .lt off, 3)) (ht : (pc : Int) + off = (tgt : Int)) (h : x < y) (k : V E d M Post tgt ls st n cs sl I J R) : V E d M Post pc ls (.int y :: .int x :: st) n cs sl I J R := V_icmp_lt hd ht (fun _ => k) (fun q => absurd h q)
theorem V_icmp_lt_f {x y : Int32} {off : Int} {tgt : Nat} (hd : decode (mC M) pc = .ok (.if_icmp .lt off, 3)) (ht : (pc : Int) + off = (tgt : Int)) (h : ¬ x < y) (k : V E d M Post (pc + 3) ls st n cs sl I J R) : V E d M Post pc ls (.int y :: .int x :: st) n cs sl I J R := V_icmp_lt hd ht (fun q => absurd q h) (fun _ => k)
theorem V_if_ge_t {x : Int32} {off : Int} {tgt : Nat} (hd : decode (mC M) pc = .ok (.ifCond .ge off, 3)) (ht : (pc : Int) + off = (tgt : Int)) (h : 0 ≤ x) (k : V E d M Post tgt ls st n cs sl I J R) : V E d M Post pc ls (.int x :: st) n cs sl I J R := V_if_ge hd ht (fun _ => k) (fun q => absurd h q)
theorem V_if_ge_f {x : Int32} {off : Int} {tgt : Nat} (hd : decode (mC M) pc = .ok (.ifCond .ge off, 3)) (ht : (pc : Int) + off = (tgt : Int)) (h : ¬ 0 ≤ x) (k : V E d M Post (pc + 3) ls st n cs sl I J R) : V E d M Post pc ls (.int x :: st) n cs sl I J R := V_if_ge hd ht (fun q => absurd q h) (fun _ => k)
theorem V_icmp_ge_t {x y : Int32} {off : Int} {tgt : Nat} (hd : decode (mC M) pc = .ok (.if_icmp .ge off, 3)) (ht : (pc : Int) + off = (tgt : Int)) (h : y ≤ x) (k : V E d M Post tgt ls st n cs sl I J R) : V E d M Post pc ls (.int y :: .int x :: st) n cs sl I J R := V_icmp_ge hd ht (fun _ => k) (fun q => absurd h q)
theorem V_icmp_ge_f {x y : Int32} {off : Int} {tgt : Nat} (hd : decode (mC M) pc = .ok (.if_icmp .ge off, 3)) (ht : (pc : Int) + off = (tgt : Int)) (h : ¬ y ≤ x) (k : V E d M Post (pc + 3) ls st n cs sl I J R) : V E d M Post pc ls (.int y :: .int x :: st) n cs sl I J R := V_icmp_ge hd ht (fun q => absurd q h) (fun _ => k)
theorem V_if_gt_t {x : Int32} {off : Int} {tgt : Nat} (hd : decode (mC M) pc = .ok (.ifCond .gt off, 3)) (ht : (pc : Int) + off = (tgt : Int)) (h : 0 < x) (k : V E d M Post tgt ls st n cs sl I J R) : V E d M Post pc ls (.int x :: st) n cs sl I J R := V_if_gt hd ht (fun _ => k) (fun q => absurd h q)
theorem V_if_gt_f {x : Int32} {off : Int} {tgt : Nat} (hd : decode (mC M) pc = .ok (.ifCond .gt off, 3)) (ht : (pc : Int) + off = (tgt : Int)) (h : ¬ 0 < x) (k : V E d M Post (pc + 3) ls st n cs sl I J R) : V E d M Post pc ls (.int x :: st) n cs sl I J R := V_if_gt hd ht (fun q => absurd q h) (fun _ => k)
theorem V_icmp_gt_t {x y : Int32} {off : Int} {tgt : Nat} (hd : decode (mC M) pc = .ok (.if_icmp .gt off, 3)) (ht : (pc : Int) + off = (tgt : Int)) (h : y < x) (k : V E d M Post tgt ls st n cs sl I J R) : V E d M Post pc ls (.int y :: .int x :: st) n cs sl I J R := V_icmp_gt hd ht (fun _ => k) (fun q => absurd h q)
theorem V_icmp_gt_f {x y : Int32} {off : Int} {tgt : Nat} (hd : decode (mC M) pc = .ok (.if_icmp .gt off, 3)) (ht : (pc : Int) + off = (tgt : Int)) (h : ¬ y < x) (k : V E d M Post (pc + 3) ls st n cs sl I J R) : V E d M Post pc ls (.int y :: .int x :: st) n cs sl I J R := V_icmp_gt hd ht (fun q => absurd q h) (fun _ => k)
theorem V_if_le_t {x : Int32} {off : Int} {tgt : Nat} (hd : decode (mC M) pc = .ok (.ifCond .le off, 3)) (ht : (pc : Int) + off = (tgt : Int)) (h : x ≤ 0) (k : V E d M Post tgt ls st n cs sl I J R) : V E d M Post pc ls (.int x :: st) n cs sl I J R := V_if_le hd ht (fun _ => k) (fun q => absurd h q)
theorem V_if_le_f {x : Int32} {off : Int} {tgt : Nat} (hd : decode (mC M) pc = .ok (.ifCond .le off, 3)) (ht : (pc : Int) + off = (tgt : Int)) (h : ¬ x ≤ 0) (k : V E d M Post (pc + 3) ls st n cs sl I J R) : V E d M Post pc ls (.int x :: st) n cs sl I J R := V_if_le hd ht (fun q => absurd q h) (fun _ => k)
theorem V_icmp_le_t {x y : Int32} {off : Int} {tgt : Nat} (hd : decode (mC M) pc = .ok (.if_icmp .le off, 3)) (ht : (pc : Int) + off = (tgt : Int)) (h : x ≤ y) (k : V E d M Post tgt ls st n cs sl I J R) : V E d M Post pc ls (.int y :: .int x :: st) n cs sl I J R := V_icmp_le hd ht (fun _ => k) (fun q => absurd h q)
theorem V_icmp_le_f {x y : Int32} {off : Int} {tgt : Nat} (hd : decode (mC M) pc = .ok (.if_icmp .le off, 3)) (ht : (pc : Int) + off = (tgt : Int)) (h : ¬ x ≤ y) (k : V E d M Post (pc + 3) ls st n cs sl I J R) : V E d M Post pc ls (.int y :: .int x :: st) n cs sl I J R := V_icmp_le hd ht (fun q => absurd q h) (fun _ => k)
end
theorem loop_up {P : Nat → Prop} (S : Nat) (hex : P S) (hst : ∀ k, k < S → P (k + 1) → P k) : ∀ k, k ≤ S → P k := by
  have key : ∀ r k, k + r = S → P k := by
    intro r
    induction r with
    | zero => intro k hk; rw [show k = S by omega]; exact hex
    | succ r ih => intro k hk; exact hst k (by omega) (ih (k + 1) (by omega))
  exact fun k hk => key (S - k) k (by omega)
def b2i (b : Bool) : Int32 := if b then 1 else 0
theorem b2i_t : b2i true = 1 := rfl
theorem b2i_f : b2i false = 0 := rfl
theorem b2i_eq0 {b : Bool} : b2i b = 0 ↔ b = false := by cases b <;> decide
theorem b2i_ne0 {b : Bool} : ¬ b2i b = 0 ↔ b = true := by cases b <;> decide
theorem b2i_01 (b : Bool) : b2i b = 0 ∨ b2i b = 1 := by cases b <;> decide
theorem b2i_nar (b : Bool) : narrow .boolean (.int (b2i b)) = .int (b2i b) := by cases b <;> rfl
theorem nI_lt' {a b : Nat} (h : a < b) (hb : b < 2 ^ 31) : ¬ nI b ≤ nI a := nI_ge h hb
