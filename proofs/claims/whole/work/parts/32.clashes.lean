/-! Plot.clashes, Company.settle -/
def lessb : List (Option Value) → List (Option Value) → Prop
  | [], _ => True
  | none :: a, _ :: b => lessb a b
  | some v :: a, w :: b => w = some v ∧ lessb a b
  | none :: a, [] => lessb a []
  | some _ :: _, [] => False
theorem lessb_ok : ∀ (a b : List (Option Value)), lessb a b → ∀ (i : Nat) (v : Value), a[i]? = some (some v) → b[i]? = some (some v)
  | [], _, _, i, v, h => by simp at h
  | none :: a, _ :: b, hl, i, v, h => by
    cases i with
    | zero => simp at h
    | succ i => exact lessb_ok a b hl i v h
  | some u :: a, w :: b, hl, i, v, h => by
    cases i with
    | zero => rw [hl.1]; exact h
    | succ i => exact lessb_ok a b hl.2 i v h
  | none :: a, [], hl, i, v, h => by
    cases i with
    | zero => simp at h
    | succ i => have := lessb_ok a [] hl i v h; simp at this
  | some _ :: _, [], hl, _, _, _ => hl.elim
theorem V_forget {E : En} {d : Nat} {M : Mt} {Post : PT} {pc : Nat} {ls ls' : List (Option Value)} {st : List Value} {n cs sl : Nat} {I : TI} {J : TJ} {R : TR} (k : V E d M Post pc ls' st n cs sl I J R) (h : lessb ls' ls) : V E d M Post pc ls st n cs sl I J R := V_less (lessb_ok ls' ls h) k
def lst (i j w : Nat) : Int32 := if w = 0 then -4 else if w = 1 then nI i else nI j
theorem lst_ne4 {i j w : Nat} (hi : i < 8) (hj : j < 8) : lst i j w = -4 ↔ w = 0 := by
  have key : ∀ q, q < 8 → ¬ nI q = (-4 : Int32) := by decide
  unfold lst
  by_cases h : w = 0
  · simp [h]
  · by_cases h1 : w = 1
    · simp [h1, key i hi]
    · simp [h, h1, key j hj]
theorem lst_eq {i j w u : Nat} (hi : i < 8) (hj : j < 8) (hij : i ≠ j) (hw : w = 1 ∨ w = 2) (hu : u = 1 ∨ u = 2) : lst i j w = lst i j u ↔ w = u := by
  have e : nI i = nI j ↔ i = j := nI_eq (by omega) (by omega)
  have e2 : nI j = nI i ↔ j = i := nI_eq (by omega) (by omega)
  rcases hw with rfl | rfl <;> rcases hu with rfl | rfl <;> simp [lst, e, e2, hij, Ne.symm hij]
section
variable {E : En} {I : TI} {J : TJ} {co dr : Nat} {cc a1 a2 : Option Nat} {Post : PT} {c : Nat} {K : KT}
theorem sp_clashes (hc : c = 4 ∨ c = 18) (hB : KB K) (hX : CoX I c K) {i j : Nat} (hi : i < 8) (hj : j < 8) (hij : i ≠ j) (Kk : Post (some (.int (b2i (cls K i j)))) NC I J (RR co dr cc a1 a2)) : Cal E 2 M_X5_clashes [.ref (c + 8), .int (nI i), .int (nI j)] NC I J (RR co dr cc a1 a2) Post := by
  have hS := hB.1.2.2.1
  have hQ := hB.1.2.1
  have hch : K 0 4 ≤ 99 := hB.1.2.2.2.2.1
  obtain ⟨_, _, _, _, _⟩ := f_pl (co := co) (dr := dr) (cc := cc) (a1 := a1) (a2 := a2) (co_pl hc)
  refine Cal_of kn_X5_clashes rfl (Nat.le_of_ble_eq_true rfl) ?_
  refine V_bipush (v := (-4)) dX5_clashes_0 (by decide) (V_istore_3 dX5_clashes_2 (by decide) rfl (V_iconst (v := 0) dX5_clashes_3 (by decide) (V_istore_4 dX5_clashes_4 (by decide) rfl (V_iconst (v := 0) dX5_clashes_6 (by decide) (V_istore_5 dX5_clashes_7 (by decide) rfl ?_)))))
  have key : ∀ r s last since, s + r = K 0 2 → last ≤ 2 → since ≤ 99 * s → Post (some (.int (b2i (clsL K i j r s last since)))) NC I J (RR co dr cc a1 a2) → V E 2 M_X5_clashes Post 9 [some (.ref (c + 8)), some (.int (nI i)), some (.int (nI j)), some (.int (lst i j last)), some (.int (nI since)), some (.int (nI s)), none, none, none, none] [] NC 0 0 I J (RR co dr cc a1 a2) := by
    intro r
    induction r with
    | zero =>
      intro s last since hs hl hsn Kz
      refine V_iload dX5_clashes_9 rfl (V_aload_n dX5_clashes_11 rfl rfl ?_)
      refine V_getI dX5_clashes_12 fl_X5_18 (by first | assumption | exact ⟨by decide, rfl⟩) ?_
      refine V_icmp_ge_t (tgt := 138) dX5_clashes_15 (by decide) (by rw [hX.2.1.1]; exact nI_le (by omega) (by omega)) ?_
      refine V_iconst (v := 0) dX5_clashes_138 (by decide) ?_
      refine V_ireturn dX5_clashes_139 rfl rfl rfl (by decide) (by decide) ?_
      exact Kz
    | succ r ih =>
      intro s last since hs hl hsn Kz
      have hsS : s < K 0 2 := by omega
      have hsc := (hX.2.2.2.2.2.2.1 s hsS).1
      have hmi := (hX.2.2.2.2.2.2.1 s hsS).2
      have hm99 := (hB.2.2.2.2.2.1 s hsS).2
      refine V_iload dX5_clashes_9 rfl (V_aload_n dX5_clashes_11 rfl rfl ?_)
      refine V_getI dX5_clashes_12 fl_X5_18 (by first | assumption | exact ⟨by decide, rfl⟩) ?_
      refine V_icmp_ge_f (tgt := 138) dX5_clashes_15 (by decide) (by rw [hX.2.1.1]; exact nI_ge (by omega) (by omega)) ?_
      refine V_aload_n dX5_clashes_18 rfl rfl ?_
      refine V_getR dX5_clashes_19 fl_X5_9 (by first | assumption | exact ⟨by decide, rfl⟩) (by first | assumption | rfl) ?_
      refine V_iload dX5_clashes_22 rfl ?_
      refine V_ial dX5_clashes_24 (by first | assumption | exact ⟨by decide, rfl⟩) ⟨rfl, by omega⟩ ?_
      refine V_iload_n dX5_clashes_25 rfl rfl ?_
      refine V_cS2i (M' := M_X10_has) (d' := 1) dX5_clashes_26 (Or.inr ⟨_, ml_X5_25⟩) kb_X10_has (by first | decide | omega) (by simp [Value.category]) ⟨by decide, by decide⟩ ?_
      rw [show c + 8 + 1 = c + 9 by omega, hsc]
      refine sp_has (lt31 (hB.2.2.2.2.2.1 s hsS).1 (by omega)) (by omega) ⟨_, rfl, ?_⟩
      refine V_istore_6 dX5_clashes_29 (by decide) rfl (V_aload_n dX5_clashes_31 rfl rfl ?_)
      refine V_getR dX5_clashes_32 fl_X5_9 (by first | assumption | exact ⟨by decide, rfl⟩) (by first | assumption | rfl) ?_
      refine V_iload dX5_clashes_35 rfl ?_
      refine V_ial dX5_clashes_37 (by first | assumption | exact ⟨by decide, rfl⟩) ⟨rfl, by omega⟩ ?_
      refine V_iload_n dX5_clashes_38 rfl rfl ?_
      refine V_cS2i (M' := M_X10_has) (d' := 1) dX5_clashes_39 (Or.inr ⟨_, ml_X5_25⟩) kb_X10_has (by first | decide | omega) (by simp [Value.category]) ⟨by decide, by decide⟩ ?_
      rw [show c + 8 + 1 = c + 9 by omega, hsc]
      refine sp_has (lt31 (hB.2.2.2.2.2.1 s hsS).1 (by omega)) (by omega) ⟨_, rfl, ?_⟩
      refine V_istore_7 dX5_clashes_42 (by decide) rfl ?_
      -- from 81 on, with the part as which one is on now
      have h81 : ∀ (A B : Bool) (w : Nat), w = 1 ∨ w = 2 → V E 2 M_X5_clashes Post 100 [some (.ref (c + 8)), some (.int (nI i)), some (.int (nI j)), some (.int (lst i j last)), some (.int (nI since)), some (.int (nI s)), some (.int (b2i A)), some (.int (b2i B)), some (.int (lst i j w)), some (.int (b2i (decide (last ≠ 0 ∧ last ≠ w))))] [] NC 0 0 I J (RR co dr cc a1 a2) → V E 2 M_X5_clashes Post 81 [some (.ref (c + 8)), some (.int (nI i)), some (.int (nI j)), some (.int (lst i j last)), some (.int (nI since)), some (.int (nI s)), some (.int (b2i A)), some (.int (b2i B)), some (.int (lst i j w)), none] [] NC 0 0 I J (RR co dr cc a1 a2) := by
        intro A B w hw hk
        by_cases h0 : last = 0
        · refine V_iload_n dX5_clashes_81 rfl rfl (V_bipush (v := (-4)) dX5_clashes_82 (by decide) ?_)
          refine V_icmp_eq_t (tgt := 97) dX5_clashes_84 (by decide) ((lst_ne4 hi hj).mpr h0) ?_
          refine V_iconst (v := 0) dX5_clashes_97 (by decide) (V_istore_9 dX5_clashes_98 (by decide) rfl ?_)
          have e : decide (last ≠ 0 ∧ last ≠ w) = false := by simp [h0]
          rw [e] at hk; exact hk
        · by_cases h1 : last = w
          · refine V_iload_n dX5_clashes_81 rfl rfl (V_bipush (v := (-4)) dX5_clashes_82 (by decide) ?_)
            refine V_icmp_eq_f (tgt := 97) dX5_clashes_84 (by decide) (fun z => h0 ((lst_ne4 hi hj).mp z)) ?_
            refine V_iload_n dX5_clashes_87 rfl rfl (V_iload dX5_clashes_88 rfl ?_)
            refine V_icmp_eq_t (tgt := 97) dX5_clashes_90 (by decide) (by rw [h1]) ?_
            refine V_iconst (v := 0) dX5_clashes_97 (by decide) (V_istore_9 dX5_clashes_98 (by decide) rfl ?_)
            have e : decide (last ≠ 0 ∧ last ≠ w) = false := by simp [h1]
            rw [e] at hk; exact hk
          · refine V_iload_n dX5_clashes_81 rfl rfl (V_bipush (v := (-4)) dX5_clashes_82 (by decide) ?_)
            refine V_icmp_eq_f (tgt := 97) dX5_clashes_84 (by decide) (fun z => h0 ((lst_ne4 hi hj).mp z)) ?_
            refine V_iload_n dX5_clashes_87 rfl rfl (V_iload dX5_clashes_88 rfl ?_)
            refine V_icmp_eq_f (tgt := 97) dX5_clashes_90 (by decide) (fun z => h1 ((lst_eq hi hj hij (by omega) hw).mp z)) ?_
            refine V_iconst (v := 1) dX5_clashes_93 (by decide) (V_goto (tgt := 98) dX5_clashes_94 (by decide) (V_istore_9 dX5_clashes_98 (by decide) rfl ?_))
            have e : decide (last ≠ 0 ∧ last ≠ w) = true := by simp [h0, h1]
            rw [e] at hk; exact hk
      -- one of both alone is on
      have h100 : ∀ (A B : Bool) (w : Nat), (w = 1 ∧ A = true ∧ B = false ∨ w = 2 ∧ A = false ∧ B = true) → Post (some (.int (b2i (if last ≠ 0 ∧ last ≠ w ∧ since < K 0 4 then true else clsL K i j r (s + 1) w 0)))) NC I J (RR co dr cc a1 a2) → V E 2 M_X5_clashes Post 100 [some (.ref (c + 8)), some (.int (nI i)), some (.int (nI j)), some (.int (lst i j last)), some (.int (nI since)), some (.int (nI s)), some (.int (b2i A)), some (.int (b2i B)), some (.int (lst i j w)), some (.int (b2i (decide (last ≠ 0 ∧ last ≠ w))))] [] NC 0 0 I J (RR co dr cc a1 a2) := by
        intro A B w hw hp
        have hgo : V E 2 M_X5_clashes Post 110 [some (.ref (c + 8)), some (.int (nI i)), some (.int (nI j)), some (.int (lst i j last)), some (.int (nI since)), some (.int (nI s)), some (.int (b2i A)), some (.int (b2i B)), some (.int (lst i j w)), some (.int (b2i (decide (last ≠ 0 ∧ last ≠ w))))] [] NC 0 0 I J (RR co dr cc a1 a2) := by
          by_cases hch2 : last ≠ 0 ∧ last ≠ w
          · have e : decide (last ≠ 0 ∧ last ≠ w) = true := by simp [hch2]
            rw [e]
            by_cases hlt : since < K 0 4
            · refine V_iload dX5_clashes_110 rfl ?_
              refine V_if_eq_f (tgt := 126) dX5_clashes_112 (by decide) (by decide) ?_
              refine V_iload dX5_clashes_115 rfl (V_aload_n dX5_clashes_117 rfl rfl ?_)
              refine V_getI dX5_clashes_118 fl_X5_22 (by first | assumption | exact ⟨by decide, rfl⟩) ?_
              refine V_icmp_ge_f (tgt := 126) dX5_clashes_121 (by decide) (by rw [hX.2.1.2]; exact nI_ge hlt (by omega)) ?_
              refine V_iconst (v := 1) dX5_clashes_124 (by decide) ?_
              refine V_ireturn dX5_clashes_125 rfl rfl rfl (by decide) (by decide) ?_
              rw [if_pos ⟨hch2.1, hch2.2, hlt⟩] at hp
              exact hp
            · refine V_iload dX5_clashes_110 rfl ?_
              refine V_if_eq_f (tgt := 126) dX5_clashes_112 (by decide) (by decide) ?_
              refine V_iload dX5_clashes_115 rfl (V_aload_n dX5_clashes_117 rfl rfl ?_)
              refine V_getI dX5_clashes_118 fl_X5_22 (by first | assumption | exact ⟨by decide, rfl⟩) ?_
              refine V_icmp_ge_t (tgt := 126) dX5_clashes_121 (by decide) (by rw [hX.2.1.2]; exact nI_le (by omega) (by omega)) ?_
              refine V_iload dX5_clashes_126 rfl (V_istore_3 dX5_clashes_128 (by decide) rfl (V_iconst (v := 0) dX5_clashes_129 (by decide) (V_istore_4 dX5_clashes_130 (by decide) rfl (V_iinc_5 (w := 1) dX5_clashes_132 (by decide) (by decide) rfl (V_goto (tgt := 9) dX5_clashes_135 (by decide) ?_)))))
              rw [if_neg (fun z => hlt z.2.2)] at hp
              rw [nI_1]
              exact V_forget (ih (s + 1) w 0 (by omega) (by omega) (by omega) hp) (by simp [lessb, nI_0])
          · have e : decide (last ≠ 0 ∧ last ≠ w) = false := by simp only [decide_eq_false_iff_not]; exact hch2
            rw [e]
            refine V_iload dX5_clashes_110 rfl ?_
            refine V_if_eq_t (tgt := 126) dX5_clashes_112 (by decide) (rfl) ?_
            refine V_iload dX5_clashes_126 rfl (V_istore_3 dX5_clashes_128 (by decide) rfl (V_iconst (v := 0) dX5_clashes_129 (by decide) (V_istore_4 dX5_clashes_130 (by decide) rfl (V_iinc_5 (w := 1) dX5_clashes_132 (by decide) (by decide) rfl (V_goto (tgt := 9) dX5_clashes_135 (by decide) ?_)))))
            rw [if_neg (fun z => hch2 ⟨z.1, z.2.1⟩)] at hp
            rw [nI_1]
            exact V_forget (ih (s + 1) w 0 (by omega) (by omega) (by omega) hp) (by simp [lessb, nI_0])
        rcases hw with ⟨rfl, rfl, rfl⟩ | ⟨rfl, rfl, rfl⟩
        · refine V_iload dX5_clashes_100 rfl ?_
          refine V_if_eq_f (tgt := 110) dX5_clashes_102 (by decide) (by decide) ?_
          refine V_iload dX5_clashes_105 rfl ?_
          refine V_if_ne_f (tgt := 124) dX5_clashes_107 (by decide) (rfl) ?_
          exact hgo
        · refine V_iload dX5_clashes_100 rfl ?_
          refine V_if_eq_t (tgt := 110) dX5_clashes_102 (by decide) (rfl) ?_
          exact hgo
      have Kz := Kz
      unfold clsL at Kz
      cases ha : (K 9 s).testBit i <;> cases hb : (K 9 s).testBit j
      · rw [ha, hb, if_pos ⟨rfl, rfl⟩] at Kz
        refine V_iload dX5_clashes_44 rfl ?_
        refine V_if_ne_f (tgt := 69) dX5_clashes_46 (by decide) (rfl) ?_
        refine V_iload dX5_clashes_49 rfl ?_
        refine V_if_ne_f (tgt := 69) dX5_clashes_51 (by decide) (rfl) ?_
        refine V_iload dX5_clashes_54 rfl (V_aload_n dX5_clashes_56 rfl rfl ?_)
        refine V_getR dX5_clashes_57 fl_X5_15 (by first | assumption | exact ⟨by decide, rfl⟩) (by first | assumption | rfl) ?_
        refine V_iload dX5_clashes_60 rfl ?_
        refine V_ial dX5_clashes_62 (by first | assumption | exact ⟨by decide, rfl⟩) ⟨rfl, by omega⟩ ?_
        refine V_iadd dX5_clashes_63 (V_istore_4 dX5_clashes_64 (by decide) rfl (V_goto (tgt := 132) dX5_clashes_66 (by decide) (V_iinc_5 (w := 1) dX5_clashes_132 (by decide) (by decide) rfl (V_goto (tgt := 9) dX5_clashes_135 (by decide) ?_))))
        rw [show c + 8 + 2 = c + 10 by omega, hmi, nI_add, nI_1]
        exact V_forget (ih (s + 1) last (since + K 10 s) (by omega) hl (by omega) Kz) (by simp [lessb, nI_0])
      · rw [ha, hb, if_neg (by simp)] at Kz
        refine V_iload dX5_clashes_44 rfl ?_
        refine V_if_ne_f (tgt := 69) dX5_clashes_46 (by decide) (rfl) ?_
        refine V_iload dX5_clashes_49 rfl ?_
        refine V_if_ne_t (tgt := 69) dX5_clashes_51 (by decide) (by decide) ?_
        refine V_iload dX5_clashes_69 rfl ?_
        refine V_if_eq_t (tgt := 78) dX5_clashes_71 (by decide) (rfl) ?_
        refine V_iload_n dX5_clashes_78 rfl rfl (V_istore_8 dX5_clashes_79 (by decide) rfl ?_)
        refine h81 false true 2 (Or.inr rfl) (h100 false true 2 (Or.inr ⟨rfl, rfl, rfl⟩) ?_)
        simpa using Kz
      · rw [ha, hb, if_neg (by simp)] at Kz
        refine V_iload dX5_clashes_44 rfl ?_
        refine V_if_ne_t (tgt := 69) dX5_clashes_46 (by decide) (by decide) ?_
        refine V_iload dX5_clashes_69 rfl ?_
        refine V_if_eq_f (tgt := 78) dX5_clashes_71 (by decide) (by decide) ?_
        refine V_iload_n dX5_clashes_74 rfl rfl (V_goto (tgt := 79) dX5_clashes_75 (by decide) (V_istore_8 dX5_clashes_79 (by decide) rfl ?_))
        refine h81 true false 1 (Or.inl rfl) (h100 true false 1 (Or.inl ⟨rfl, rfl, rfl⟩) ?_)
        simpa using Kz
      · rw [ha, hb, if_neg (by simp), if_pos (Or.inl ⟨rfl, rfl⟩)] at Kz
        refine V_iload dX5_clashes_44 rfl ?_
        refine V_if_ne_t (tgt := 69) dX5_clashes_46 (by decide) (by decide) ?_
        refine V_iload dX5_clashes_69 rfl ?_
        refine V_if_eq_f (tgt := 78) dX5_clashes_71 (by decide) (by decide) ?_
        refine V_iload_n dX5_clashes_74 rfl rfl (V_goto (tgt := 79) dX5_clashes_75 (by decide) (V_istore_8 dX5_clashes_79 (by decide) rfl ?_))
        refine h81 true true 1 (Or.inl rfl) ?_
        refine V_iload dX5_clashes_100 rfl ?_
        refine V_if_eq_f (tgt := 110) dX5_clashes_102 (by decide) (by decide) ?_
        refine V_iload dX5_clashes_105 rfl ?_
        refine V_if_ne_t (tgt := 124) dX5_clashes_107 (by decide) (by decide) ?_
        refine V_iconst (v := 1) dX5_clashes_124 (by decide) ?_
        refine V_ireturn dX5_clashes_125 rfl rfl rfl (by decide) (by decide) ?_
        exact Kz
  exact key (K 0 2) 0 0 0 (by omega) (by omega) (by omega) Kk
end
