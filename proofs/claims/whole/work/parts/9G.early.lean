/-! What the class's constructor calls, when the reference isn't made yet: the same contracts over the class's cells alone (text of parts 30 .. 74, NC being 70) -/
abbrev NE : Nat := 70
section
variable {co dr : Nat} {cc a1 a2 : Option Nat} {c : Nat}
theorem ef_co (hc : c = 4 ∨ c = 18) : at_ NE c (.inr 3) ∧ RR co dr cc a1 a2 c 3 = some (c + 1) ∧ at_ NE (c + 1) (.inl (0, 10)) ∧ RR co dr cc a1 a2 c 4 = some (c + 2) ∧ at_ NE (c + 2) (.inl (0, 10)) ∧ RR co dr cc a1 a2 c 5 = some (c + 3) ∧ at_ NE (c + 3) (.inl (0, 10)) ∧ RR co dr cc a1 a2 c 6 = some (c + 4) ∧ at_ NE (c + 4) (.inl (0, 8)) ∧ RR co dr cc a1 a2 c 7 = some (c + 5) ∧ at_ NE (c + 5) (.inl (0, 8)) ∧ RR co dr cc a1 a2 c 8 = some (c + 6) ∧ at_ NE (c + 6) (.inl (0, 8)) ∧ RR co dr cc a1 a2 c 9 = some (c + 7) ∧ at_ NE (c + 7) (.inl (0, 8)) ∧ RR co dr cc a1 a2 c 11 = some (c + 8) ∧ at_ NE (c + 8) (.inr 5) ∧ RR co dr cc a1 a2 c 12 = some (c + 11) ∧ at_ NE (c + 11) (.inl (0, 100)) ∧ RR co dr cc a1 a2 c 17 = some (c + 12) ∧ at_ NE (c + 12) (.inl (0, 8)) ∧ RR co dr cc a1 a2 c 18 = some (c + 13) ∧ at_ NE (c + 13) (.inl (0, 8)) := by rcases hc with rfl | rfl <;> exact ⟨⟨Nat.le_of_ble_eq_true rfl, rfl⟩, rfl, ⟨Nat.le_of_ble_eq_true rfl, rfl⟩, rfl, ⟨Nat.le_of_ble_eq_true rfl, rfl⟩, rfl, ⟨Nat.le_of_ble_eq_true rfl, rfl⟩, rfl, ⟨Nat.le_of_ble_eq_true rfl, rfl⟩, rfl, ⟨Nat.le_of_ble_eq_true rfl, rfl⟩, rfl, ⟨Nat.le_of_ble_eq_true rfl, rfl⟩, rfl, ⟨Nat.le_of_ble_eq_true rfl, rfl⟩, rfl, ⟨Nat.le_of_ble_eq_true rfl, rfl⟩, rfl, ⟨Nat.le_of_ble_eq_true rfl, rfl⟩, rfl, ⟨Nat.le_of_ble_eq_true rfl, rfl⟩, rfl, ⟨Nat.le_of_ble_eq_true rfl, rfl⟩⟩
theorem ef_di (hc : c = 32 ∨ c = 35 ∨ c = 38) : at_ NE c (.inr 4) ∧ RR co dr cc a1 a2 c 1 = some (c + 1) ∧ at_ NE (c + 1) (.inl (0, 10)) ∧ RR co dr cc a1 a2 c 2 = some (c + 2) ∧ at_ NE (c + 2) (.inl (0, 80)) := by rcases hc with rfl | rfl | rfl <;> exact ⟨⟨Nat.le_of_ble_eq_true rfl, rfl⟩, rfl, ⟨Nat.le_of_ble_eq_true rfl, rfl⟩, rfl, ⟨Nat.le_of_ble_eq_true rfl, rfl⟩⟩
theorem ef_pl (hc : c = 12 ∨ c = 26) : at_ NE c (.inr 5) ∧ RR co dr cc a1 a2 c 2 = some (c + 1) ∧ at_ NE (c + 1) (.inl (0, 10)) ∧ RR co dr cc a1 a2 c 3 = some (c + 2) ∧ at_ NE (c + 2) (.inl (0, 10)) := by rcases hc with rfl | rfl <;> exact ⟨⟨Nat.le_of_ble_eq_true rfl, rfl⟩, rfl, ⟨Nat.le_of_ble_eq_true rfl, rfl⟩, rfl, ⟨Nat.le_of_ble_eq_true rfl, rfl⟩⟩
end
section
variable {E : En} {I : TI} {J : TJ} {co dr : Nat} {cc a1 a2 : Option Nat} {Post : PT} {c : Nat} {K : KT} {D1 D2 : Di}
theorem se_hasPlayer (hc : c = 4 ∨ c = 18) {P : Nat} (hP : I c 0 = nI P) (hP2 : P < 2 ^ 31) {p : Int32} (Kk : Post (some (.int (b2i (inR p P)))) NE I J (RR co dr cc a1 a2)) : Cal E 1 M_X3_hasPlayer [.ref c, .int p] NE I J (RR co dr cc a1 a2) Post := by
  obtain ⟨_, _, _, _, _, _, _, _, _, _, _, _, _, _, _, _, _, _, _, _, _, _, _⟩ := ef_co (co := co) (dr := dr) (cc := cc) (a1 := a1) (a2 := a2) (hc)
  refine Cal_of kn_X3_hasPlayer rfl (Nat.le_of_ble_eq_true rfl) ?_
  refine V_iload_n dX3_hasPlayer_0 rfl rfl ?_
  refine V_if_lt (tgt := 16) dX3_hasPlayer_1 (by decide) (fun h1 => ?_) (fun h1 => ?_)
  · refine V_iconst (v := 0) dX3_hasPlayer_16 (by decide) ?_
    refine V_ireturn dX3_hasPlayer_17 rfl rfl rfl (by decide) (by decide) ?_
    rw [inR_lt h1] at Kk; exact Kk
  · refine V_iload_n dX3_hasPlayer_4 rfl rfl (V_aload_n dX3_hasPlayer_5 rfl rfl ?_)
    refine V_getI dX3_hasPlayer_6 fl_X3_49 (by first | assumption | exact ⟨by decide, rfl⟩) ?_
    refine V_icmp_ge (tgt := 16) dX3_hasPlayer_9 (by decide) (fun h9 => ?_) (fun h9 => ?_)
    · refine V_iconst (v := 0) dX3_hasPlayer_16 (by decide) ?_
      refine V_ireturn dX3_hasPlayer_17 rfl rfl rfl (by decide) (by decide) ?_
      rw [hP] at h9
      rw [inR_ge hP2 h9] at Kk; exact Kk
    · refine V_iconst (v := 1) dX3_hasPlayer_12 (by decide) (V_goto (tgt := 17) dX3_hasPlayer_13 (by decide) ?_)
      refine V_ireturn dX3_hasPlayer_17 rfl rfl rfl (by decide) (by decide) ?_
      rw [hP] at h9
      rw [inR_in hP2 h1 h9] at Kk; exact Kk
theorem se_hasPart (hc : c = 4 ∨ c = 18) {P : Nat} (hP : I c 1 = nI P) (hP2 : P < 2 ^ 31) {p : Int32} (Kk : Post (some (.int (b2i (inR p P)))) NE I J (RR co dr cc a1 a2)) : Cal E 1 M_X3_hasPart [.ref c, .int p] NE I J (RR co dr cc a1 a2) Post := by
  obtain ⟨_, _, _, _, _, _, _, _, _, _, _, _, _, _, _, _, _, _, _, _, _, _, _⟩ := ef_co (co := co) (dr := dr) (cc := cc) (a1 := a1) (a2 := a2) (hc)
  refine Cal_of kn_X3_hasPart rfl (Nat.le_of_ble_eq_true rfl) ?_
  refine V_iload_n dX3_hasPart_0 rfl rfl ?_
  refine V_if_lt (tgt := 16) dX3_hasPart_1 (by decide) (fun h1 => ?_) (fun h1 => ?_)
  · refine V_iconst (v := 0) dX3_hasPart_16 (by decide) ?_
    refine V_ireturn dX3_hasPart_17 rfl rfl rfl (by decide) (by decide) ?_
    rw [inR_lt h1] at Kk; exact Kk
  · refine V_iload_n dX3_hasPart_4 rfl rfl (V_aload_n dX3_hasPart_5 rfl rfl ?_)
    refine V_getI dX3_hasPart_6 fl_X3_53 (by first | assumption | exact ⟨by decide, rfl⟩) ?_
    refine V_icmp_ge (tgt := 16) dX3_hasPart_9 (by decide) (fun h9 => ?_) (fun h9 => ?_)
    · refine V_iconst (v := 0) dX3_hasPart_16 (by decide) ?_
      refine V_ireturn dX3_hasPart_17 rfl rfl rfl (by decide) (by decide) ?_
      rw [hP] at h9
      rw [inR_ge hP2 h9] at Kk; exact Kk
    · refine V_iconst (v := 1) dX3_hasPart_12 (by decide) (V_goto (tgt := 17) dX3_hasPart_13 (by decide) ?_)
      refine V_ireturn dX3_hasPart_17 rfl rfl rfl (by decide) (by decide) ?_
      rw [hP] at h9
      rw [inR_in hP2 h1 h9] at Kk; exact Kk
theorem se_isSkilled (hc : c = 4 ∨ c = 18) (hB : KB K) (hX : CoX I c K) {p i : Nat} (hp : p < K 0 0) (hi : i < K 0 1) (Kk : Post (some (.int (b2i (skl K p i)))) NE I J (RR co dr cc a1 a2)) : Cal E 1 M_X3_isSkilled [.ref c, .int (nI p), .int (nI i)] NE I J (RR co dr cc a1 a2) Post := by
  have hP := hB.1.1
  have hQ := hB.1.2.1
  obtain ⟨_, _, _, _, _, _, _, _, _, _, _, _, _, _, _, _, _, _, _, _, _, _, _⟩ := ef_co (co := co) (dr := dr) (cc := cc) (a1 := a1) (a2 := a2) (hc)
  refine Cal_of kn_X3_isSkilled rfl (Nat.le_of_ble_eq_true rfl) ?_
  have hw : K 5 i ≤ 15 := (hB.2.2.2.1 i hi).2.1
  have ha : andn (K 5 i) (K 2 p) < 2 ^ 4 := andn_lt (by omega)
  refine V_aload_n dX3_isSkilled_0 rfl rfl ?_
  refine V_getR dX3_isSkilled_1 fl_X3_24 (by first | assumption | exact ⟨by decide, rfl⟩) (by first | assumption | rfl) ?_
  refine V_iload_n dX3_isSkilled_4 rfl rfl ?_
  refine V_ial dX3_isSkilled_5 (by first | assumption | exact ⟨by decide, rfl⟩) ⟨rfl, by omega⟩ ?_
  refine V_aload_n dX3_isSkilled_6 rfl rfl ?_
  refine V_getR dX3_isSkilled_7 fl_X3_15 (by first | assumption | exact ⟨by decide, rfl⟩) (by first | assumption | rfl) ?_
  refine V_iload_n dX3_isSkilled_10 rfl rfl ?_
  refine V_ial dX3_isSkilled_11 (by first | assumption | exact ⟨by decide, rfl⟩) ⟨rfl, by omega⟩ ?_
  refine V_iconst (v := (-1)) dX3_isSkilled_12 (by decide) (V_ixor dX3_isSkilled_13 (V_iand dX3_isSkilled_14 ?_))
  refine V_if_ne (tgt := 22) dX3_isSkilled_15 (by decide) (fun h15 => ?_) (fun h15 => ?_)
  · rw [(hX.2.2.2.2.1 i hi).2.1, (hX.2.2.1 p hp).2, andn_nI, ← nI_0, nI_eq (by omega) (by decide)] at h15
    refine V_iconst (v := 0) dX3_isSkilled_22 (by decide) ?_
    refine V_ireturn dX3_isSkilled_23 rfl rfl rfl (by decide) (by decide) ?_
    have e : skl K p i = false := by unfold skl; simp [h15]
    rw [e] at Kk; exact Kk
  · rw [(hX.2.2.2.2.1 i hi).2.1, (hX.2.2.1 p hp).2, andn_nI, ← nI_0, nI_eq (by omega) (by decide)] at h15
    refine V_iconst (v := 1) dX3_isSkilled_18 (by decide) (V_goto (tgt := 23) dX3_isSkilled_19 (by decide) ?_)
    refine V_ireturn dX3_isSkilled_23 rfl rfl rfl (by decide) (by decide) ?_
    have e : skl K p i = true := by unfold skl; simp [h15]
    rw [e] at Kk; exact Kk
theorem se_clashes (hc : c = 4 ∨ c = 18) (hB : KB K) (hX : CoX I c K) {i j : Nat} (hi : i < 8) (hj : j < 8) (hij : i ≠ j) (Kk : Post (some (.int (b2i (cls K i j)))) NE I J (RR co dr cc a1 a2)) : Cal E 2 M_X5_clashes [.ref (c + 8), .int (nI i), .int (nI j)] NE I J (RR co dr cc a1 a2) Post := by
  have hS := hB.1.2.2.1
  have hQ := hB.1.2.1
  have hch : K 0 4 ≤ 99 := hB.1.2.2.2.2.1
  obtain ⟨_, _, _, _, _⟩ := ef_pl (co := co) (dr := dr) (cc := cc) (a1 := a1) (a2 := a2) (co_pl hc)
  refine Cal_of kn_X5_clashes rfl (Nat.le_of_ble_eq_true rfl) ?_
  refine V_bipush (v := (-4)) dX5_clashes_0 (by decide) (V_istore_3 dX5_clashes_2 (by decide) rfl (V_iconst (v := 0) dX5_clashes_3 (by decide) (V_istore_4 dX5_clashes_4 (by decide) rfl (V_iconst (v := 0) dX5_clashes_6 (by decide) (V_istore_5 dX5_clashes_7 (by decide) rfl ?_)))))
  have key : ∀ r s last since, s + r = K 0 2 → last ≤ 2 → since ≤ 99 * s → Post (some (.int (b2i (clsL K i j r s last since)))) NE I J (RR co dr cc a1 a2) → V E 2 M_X5_clashes Post 9 [some (.ref (c + 8)), some (.int (nI i)), some (.int (nI j)), some (.int (lst i j last)), some (.int (nI since)), some (.int (nI s)), none, none, none, none] [] NE 0 0 I J (RR co dr cc a1 a2) := by
    intro r
    induction r with
    | zero =>
      intro s last since hs hl hsn Kz
      refine V_iload dX5_clashes_9 rfl (V_aload_n dX5_clashes_11 rfl rfl ?_)
      refine V_getI dX5_clashes_12 fl_X5_18 (by first | assumption | exact ⟨by decide, rfl⟩) ?_
      refine V_icmp_ge_t (tgt := 138) dX5_clashes_15 (by decide) (by rw [hX.2.1.1]; exact nI_le (by omega) (by omega)) ?_
      refine V_iconst (v := 0) dX5_clashes_138 (by decide) ?_
      refine V_ireturn dX5_clashes_139 rfl rfl rfl (by decide) (by decide) ?_
      exact Kz
    | succ r ih =>
      intro s last since hs hl hsn Kz
      have hsS : s < K 0 2 := by omega
      have hsc := (hX.2.2.2.2.2.2.1 s hsS).1
      have hmi := (hX.2.2.2.2.2.2.1 s hsS).2
      have hm99 := (hB.2.2.2.2.2.1 s hsS).2
      refine V_iload dX5_clashes_9 rfl (V_aload_n dX5_clashes_11 rfl rfl ?_)
      refine V_getI dX5_clashes_12 fl_X5_18 (by first | assumption | exact ⟨by decide, rfl⟩) ?_
      refine V_icmp_ge_f (tgt := 138) dX5_clashes_15 (by decide) (by rw [hX.2.1.1]; exact nI_ge (by omega) (by omega)) ?_
      refine V_aload_n dX5_clashes_18 rfl rfl ?_
      refine V_getR dX5_clashes_19 fl_X5_9 (by first | assumption | exact ⟨by decide, rfl⟩) (by first | assumption | rfl) ?_
      refine V_iload dX5_clashes_22 rfl ?_
      refine V_ial dX5_clashes_24 (by first | assumption | exact ⟨by decide, rfl⟩) ⟨rfl, by omega⟩ ?_
      refine V_iload_n dX5_clashes_25 rfl rfl ?_
      refine V_cS2i (M' := M_X10_has) (d' := 1) dX5_clashes_26 (Or.inr ⟨_, ml_X5_25⟩) kb_X10_has (by first | decide | omega) (by simp [Value.category]) ⟨by decide, by decide⟩ ?_
      rw [show c + 8 + 1 = c + 9 by omega, hsc]
      refine sp_has (lt31 (hB.2.2.2.2.2.1 s hsS).1 (by omega)) (by omega) ⟨_, rfl, ?_⟩
      refine V_istore_6 dX5_clashes_29 (by decide) rfl (V_aload_n dX5_clashes_31 rfl rfl ?_)
      refine V_getR dX5_clashes_32 fl_X5_9 (by first | assumption | exact ⟨by decide, rfl⟩) (by first | assumption | rfl) ?_
      refine V_iload dX5_clashes_35 rfl ?_
      refine V_ial dX5_clashes_37 (by first | assumption | exact ⟨by decide, rfl⟩) ⟨rfl, by omega⟩ ?_
      refine V_iload_n dX5_clashes_38 rfl rfl ?_
      refine V_cS2i (M' := M_X10_has) (d' := 1) dX5_clashes_39 (Or.inr ⟨_, ml_X5_25⟩) kb_X10_has (by first | decide | omega) (by simp [Value.category]) ⟨by decide, by decide⟩ ?_
      rw [show c + 8 + 1 = c + 9 by omega, hsc]
      refine sp_has (lt31 (hB.2.2.2.2.2.1 s hsS).1 (by omega)) (by omega) ⟨_, rfl, ?_⟩
      refine V_istore_7 dX5_clashes_42 (by decide) rfl ?_
      -- from 81 on, with the part as which one is on now
      have h81 : ∀ (A B : Bool) (w : Nat), w = 1 ∨ w = 2 → V E 2 M_X5_clashes Post 100 [some (.ref (c + 8)), some (.int (nI i)), some (.int (nI j)), some (.int (lst i j last)), some (.int (nI since)), some (.int (nI s)), some (.int (b2i A)), some (.int (b2i B)), some (.int (lst i j w)), some (.int (b2i (decide (last ≠ 0 ∧ last ≠ w))))] [] NE 0 0 I J (RR co dr cc a1 a2) → V E 2 M_X5_clashes Post 81 [some (.ref (c + 8)), some (.int (nI i)), some (.int (nI j)), some (.int (lst i j last)), some (.int (nI since)), some (.int (nI s)), some (.int (b2i A)), some (.int (b2i B)), some (.int (lst i j w)), none] [] NE 0 0 I J (RR co dr cc a1 a2) := by
        intro A B w hw hk
        by_cases h0 : last = 0
        · refine V_iload_n dX5_clashes_81 rfl rfl (V_bipush (v := (-4)) dX5_clashes_82 (by decide) ?_)
          refine V_icmp_eq_t (tgt := 97) dX5_clashes_84 (by decide) ((lst_ne4 hi hj).mpr h0) ?_
          refine V_iconst (v := 0) dX5_clashes_97 (by decide) (V_istore_9 dX5_clashes_98 (by decide) rfl ?_)
          have e : decide (last ≠ 0 ∧ last ≠ w) = false := by simp [h0]
          rw [e] at hk; exact hk
        · by_cases h1 : last = w
          · refine V_iload_n dX5_clashes_81 rfl rfl (V_bipush (v := (-4)) dX5_clashes_82 (by decide) ?_)
            refine V_icmp_eq_f (tgt := 97) dX5_clashes_84 (by decide) (fun z => h0 ((lst_ne4 hi hj).mp z)) ?_
            refine V_iload_n dX5_clashes_87 rfl rfl (V_iload dX5_clashes_88 rfl ?_)
            refine V_icmp_eq_t (tgt := 97) dX5_clashes_90 (by decide) (by rw [h1]) ?_
            refine V_iconst (v := 0) dX5_clashes_97 (by decide) (V_istore_9 dX5_clashes_98 (by decide) rfl ?_)
            have e : decide (last ≠ 0 ∧ last ≠ w) = false := by simp [h1]
            rw [e] at hk; exact hk
          · refine V_iload_n dX5_clashes_81 rfl rfl (V_bipush (v := (-4)) dX5_clashes_82 (by decide) ?_)
            refine V_icmp_eq_f (tgt := 97) dX5_clashes_84 (by decide) (fun z => h0 ((lst_ne4 hi hj).mp z)) ?_
            refine V_iload_n dX5_clashes_87 rfl rfl (V_iload dX5_clashes_88 rfl ?_)
            refine V_icmp_eq_f (tgt := 97) dX5_clashes_90 (by decide) (fun z => h1 ((lst_eq hi hj hij (by omega) hw).mp z)) ?_
            refine V_iconst (v := 1) dX5_clashes_93 (by decide) (V_goto (tgt := 98) dX5_clashes_94 (by decide) (V_istore_9 dX5_clashes_98 (by decide) rfl ?_))
            have e : decide (last ≠ 0 ∧ last ≠ w) = true := by simp [h0, h1]
            rw [e] at hk; exact hk
      -- one of both alone is on
      have h100 : ∀ (A B : Bool) (w : Nat), (w = 1 ∧ A = true ∧ B = false ∨ w = 2 ∧ A = false ∧ B = true) → Post (some (.int (b2i (if last ≠ 0 ∧ last ≠ w ∧ since < K 0 4 then true else clsL K i j r (s + 1) w 0)))) NE I J (RR co dr cc a1 a2) → V E 2 M_X5_clashes Post 100 [some (.ref (c + 8)), some (.int (nI i)), some (.int (nI j)), some (.int (lst i j last)), some (.int (nI since)), some (.int (nI s)), some (.int (b2i A)), some (.int (b2i B)), some (.int (lst i j w)), some (.int (b2i (decide (last ≠ 0 ∧ last ≠ w))))] [] NE 0 0 I J (RR co dr cc a1 a2) := by
        intro A B w hw hp
        have hgo : V E 2 M_X5_clashes Post 110 [some (.ref (c + 8)), some (.int (nI i)), some (.int (nI j)), some (.int (lst i j last)), some (.int (nI since)), some (.int (nI s)), some (.int (b2i A)), some (.int (b2i B)), some (.int (lst i j w)), some (.int (b2i (decide (last ≠ 0 ∧ last ≠ w))))] [] NE 0 0 I J (RR co dr cc a1 a2) := by
          by_cases hch2 : last ≠ 0 ∧ last ≠ w
          · have e : decide (last ≠ 0 ∧ last ≠ w) = true := by simp [hch2]
            rw [e]
            by_cases hlt : since < K 0 4
            · refine V_iload dX5_clashes_110 rfl ?_
              refine V_if_eq_f (tgt := 126) dX5_clashes_112 (by decide) (by decide) ?_
              refine V_iload dX5_clashes_115 rfl (V_aload_n dX5_clashes_117 rfl rfl ?_)
              refine V_getI dX5_clashes_118 fl_X5_22 (by first | assumption | exact ⟨by decide, rfl⟩) ?_
              refine V_icmp_ge_f (tgt := 126) dX5_clashes_121 (by decide) (by rw [hX.2.1.2]; exact nI_ge hlt (by omega)) ?_
              refine V_iconst (v := 1) dX5_clashes_124 (by decide) ?_
              refine V_ireturn dX5_clashes_125 rfl rfl rfl (by decide) (by decide) ?_
              rw [if_pos ⟨hch2.1, hch2.2, hlt⟩] at hp
              exact hp
            · refine V_iload dX5_clashes_110 rfl ?_
              refine V_if_eq_f (tgt := 126) dX5_clashes_112 (by decide) (by decide) ?_
              refine V_iload dX5_clashes_115 rfl (V_aload_n dX5_clashes_117 rfl rfl ?_)
              refine V_getI dX5_clashes_118 fl_X5_22 (by first | assumption | exact ⟨by decide, rfl⟩) ?_
              refine V_icmp_ge_t (tgt := 126) dX5_clashes_121 (by decide) (by rw [hX.2.1.2]; exact nI_le (by omega) (by omega)) ?_
              refine V_iload dX5_clashes_126 rfl (V_istore_3 dX5_clashes_128 (by decide) rfl (V_iconst (v := 0) dX5_clashes_129 (by decide) (V_istore_4 dX5_clashes_130 (by decide) rfl (V_iinc_5 (w := 1) dX5_clashes_132 (by decide) (by decide) rfl (V_goto (tgt := 9) dX5_clashes_135 (by decide) ?_)))))
              rw [if_neg (fun z => hlt z.2.2)] at hp
              rw [nI_1]
              exact V_forget (ih (s + 1) w 0 (by omega) (by omega) (by omega) hp) (by simp [lessb, nI_0])
          · have e : decide (last ≠ 0 ∧ last ≠ w) = false := by simp only [decide_eq_false_iff_not]; exact hch2
            rw [e]
            refine V_iload dX5_clashes_110 rfl ?_
            refine V_if_eq_t (tgt := 126) dX5_clashes_112 (by decide) (rfl) ?_
            refine V_iload dX5_clashes_126 rfl (V_istore_3 dX5_clashes_128 (by decide) rfl (V_iconst (v := 0) dX5_clashes_129 (by decide) (V_istore_4 dX5_clashes_130 (by decide) rfl (V_iinc_5 (w := 1) dX5_clashes_132 (by decide) (by decide) rfl (V_goto (tgt := 9) dX5_clashes_135 (by decide) ?_)))))
            rw [if_neg (fun z => hch2 ⟨z.1, z.2.1⟩)] at hp
            rw [nI_1]
            exact V_forget (ih (s + 1) w 0 (by omega) (by omega) (by omega) hp) (by simp [lessb, nI_0])
        rcases hw with ⟨rfl, rfl, rfl⟩ | ⟨rfl, rfl, rfl⟩
        · refine V_iload dX5_clashes_100 rfl ?_
          refine V_if_eq_f (tgt := 110) dX5_clashes_102 (by decide) (by decide) ?_
          refine V_iload dX5_clashes_105 rfl ?_
          refine V_if_ne_f (tgt := 124) dX5_clashes_107 (by decide) (rfl) ?_
          exact hgo
        · refine V_iload dX5_clashes_100 rfl ?_
          refine V_if_eq_t (tgt := 110) dX5_clashes_102 (by decide) (rfl) ?_
          exact hgo
      have Kz := Kz
      unfold clsL at Kz
      cases ha : (K 9 s).testBit i <;> cases hb : (K 9 s).testBit j
      · rw [ha, hb, if_pos ⟨rfl, rfl⟩] at Kz
        refine V_iload dX5_clashes_44 rfl ?_
        refine V_if_ne_f (tgt := 69) dX5_clashes_46 (by decide) (rfl) ?_
        refine V_iload dX5_clashes_49 rfl ?_
        refine V_if_ne_f (tgt := 69) dX5_clashes_51 (by decide) (rfl) ?_
        refine V_iload dX5_clashes_54 rfl (V_aload_n dX5_clashes_56 rfl rfl ?_)
        refine V_getR dX5_clashes_57 fl_X5_15 (by first | assumption | exact ⟨by decide, rfl⟩) (by first | assumption | rfl) ?_
        refine V_iload dX5_clashes_60 rfl ?_
        refine V_ial dX5_clashes_62 (by first | assumption | exact ⟨by decide, rfl⟩) ⟨rfl, by omega⟩ ?_
        refine V_iadd dX5_clashes_63 (V_istore_4 dX5_clashes_64 (by decide) rfl (V_goto (tgt := 132) dX5_clashes_66 (by decide) (V_iinc_5 (w := 1) dX5_clashes_132 (by decide) (by decide) rfl (V_goto (tgt := 9) dX5_clashes_135 (by decide) ?_))))
        rw [show c + 8 + 2 = c + 10 by omega, hmi, nI_add, nI_1]
        exact V_forget (ih (s + 1) last (since + K 10 s) (by omega) hl (by omega) Kz) (by simp [lessb, nI_0])
      · rw [ha, hb, if_neg (by simp)] at Kz
        refine V_iload dX5_clashes_44 rfl ?_
        refine V_if_ne_f (tgt := 69) dX5_clashes_46 (by decide) (rfl) ?_
        refine V_iload dX5_clashes_49 rfl ?_
        refine V_if_ne_t (tgt := 69) dX5_clashes_51 (by decide) (by decide) ?_
        refine V_iload dX5_clashes_69 rfl ?_
        refine V_if_eq_t (tgt := 78) dX5_clashes_71 (by decide) (rfl) ?_
        refine V_iload_n dX5_clashes_78 rfl rfl (V_istore_8 dX5_clashes_79 (by decide) rfl ?_)
        refine h81 false true 2 (Or.inr rfl) (h100 false true 2 (Or.inr ⟨rfl, rfl, rfl⟩) ?_)
        simpa using Kz
      · rw [ha, hb, if_neg (by simp)] at Kz
        refine V_iload dX5_clashes_44 rfl ?_
        refine V_if_ne_t (tgt := 69) dX5_clashes_46 (by decide) (by decide) ?_
        refine V_iload dX5_clashes_69 rfl ?_
        refine V_if_eq_f (tgt := 78) dX5_clashes_71 (by decide) (by decide) ?_
        refine V_iload_n dX5_clashes_74 rfl rfl (V_goto (tgt := 79) dX5_clashes_75 (by decide) (V_istore_8 dX5_clashes_79 (by decide) rfl ?_))
        refine h81 true false 1 (Or.inl rfl) (h100 true false 1 (Or.inl ⟨rfl, rfl, rfl⟩) ?_)
        simpa using Kz
      · rw [ha, hb, if_neg (by simp), if_pos (Or.inl ⟨rfl, rfl⟩)] at Kz
        refine V_iload dX5_clashes_44 rfl ?_
        refine V_if_ne_t (tgt := 69) dX5_clashes_46 (by decide) (by decide) ?_
        refine V_iload dX5_clashes_69 rfl ?_
        refine V_if_eq_f (tgt := 78) dX5_clashes_71 (by decide) (by decide) ?_
        refine V_iload_n dX5_clashes_74 rfl rfl (V_goto (tgt := 79) dX5_clashes_75 (by decide) (V_istore_8 dX5_clashes_79 (by decide) rfl ?_))
        refine h81 true true 1 (Or.inl rfl) ?_
        refine V_iload dX5_clashes_100 rfl ?_
        refine V_if_eq_f (tgt := 110) dX5_clashes_102 (by decide) (by decide) ?_
        refine V_iload dX5_clashes_105 rfl ?_
        refine V_if_ne_t (tgt := 124) dX5_clashes_107 (by decide) (by decide) ?_
        refine V_iconst (v := 1) dX5_clashes_124 (by decide) ?_
        refine V_ireturn dX5_clashes_125 rfl rfl rfl (by decide) (by decide) ?_
        exact Kz
  exact key (K 0 2) 0 0 0 (by omega) (by omega) (by omega) Kk
theorem se_settle (hc : c = 4 ∨ c = 18) (hB : KB K) (hX : CoX I c K) (Kk : ∀ I', (∀ a b, a ≠ c + 12 → a ≠ c + 13 → I' a b = I a b) → SX I' c K → Post none NE I' J (RR co dr cc a1 a2)) : Cal E 3 M_X3_settle [.ref c] NE I J (RR co dr cc a1 a2) Post := by
  have hP := hB.1.1
  have hQ := hB.1.2.1
  obtain ⟨_, _, _, _, _, _, _, _, _, _, _, _, _, _, _, _, _, _, _, _, _, _, _⟩ := ef_co (co := co) (dr := dr) (cc := cc) (a1 := a1) (a2 := a2) (hc)
  refine Cal_of kn_X3_settle rfl (Nat.le_of_ble_eq_true rfl) ?_
  refine V_iconst (v := 0) dX3_settle_0 (by decide) (V_istore_1 dX3_settle_1 (by decide) rfl ?_)
  have key : ∀ i, i ≤ K 0 1 → ∀ I', (∀ a b, a ≠ c + 12 → a ≠ c + 13 → I' a b = I a b) → (∀ q, q < i → I' (c + 12) q = nI (ableM K q) ∧ I' (c + 13) q = nI (clashM K q)) → V E 3 M_X3_settle Post 2 [some (.ref c), some (.int (nI i)), none] [] NE 0 0 I' J (RR co dr cc a1 a2) := by
    refine loop_up _ ?_ ?_
    · intro I' hI hs
      have hX' : CoX I' c K := hX.of (fun a b h1 h2 => hI a b (by omega) (by omega))
      refine V_iload_n dX3_settle_2 rfl rfl (V_aload_n dX3_settle_3 rfl rfl ?_)
      refine V_getI dX3_settle_4 fl_X3_53 (by first | assumption | exact ⟨by decide, rfl⟩) ?_
      refine V_icmp_ge_t (tgt := 135) dX3_settle_7 (by decide) (by rw [hX'.1.2.1]; exact nI_le (Nat.le_refl _) (by omega)) ?_
      refine V_return dX3_settle_135 rfl rfl (by decide) (by decide) ?_
      exact Kk I' hI hs
    · intro i hi ih I' hI hs
      have hX' : CoX I' c K := hX.of (fun a b h1 h2 => hI a b (by omega) (by omega))
      have hw : K 7 i ≤ 10 := Nat.le_trans (hB.2.2.2.2.1 i) hP
      refine V_iload_n dX3_settle_2 rfl rfl (V_aload_n dX3_settle_3 rfl rfl ?_)
      refine V_getI dX3_settle_4 fl_X3_53 (by first | assumption | exact ⟨by decide, rfl⟩) ?_
      refine V_icmp_ge_f (tgt := 135) dX3_settle_7 (by decide) (by rw [hX'.1.2.1]; exact nI_ge hi (by omega)) ?_
      refine V_aload_n dX3_settle_10 rfl rfl ?_
      refine V_getR dX3_settle_11 fl_X3_43 (by first | assumption | exact ⟨by decide, rfl⟩) (by first | assumption | rfl) ?_
      refine V_iload_n dX3_settle_14 rfl rfl (V_iconst (v := 0) dX3_settle_15 (by decide) ?_)
      refine V_ias dX3_settle_16 (by first | assumption | exact ⟨by decide, rfl⟩) ⟨rfl, by omega⟩ ?_
      refine V_iconst (v := 0) dX3_settle_17 (by decide) (V_istore_2 dX3_settle_18 (by decide) rfl ?_)
      -- the second inner loop
      have in2 : ∀ j, j ≤ K 0 1 → V E 3 M_X3_settle Post 86 [some (.ref c), some (.int (nI i)), some (.int (nI j))] [] NE 0 0 (up2 (up2 I' (c + 12) i (nI (ableM K i))) (c + 13) i (nI (mk (fun j => decide (j ≠ i) && cls K i j) j))) J (RR co dr cc a1 a2) := by
        refine loop_up _ ?_ ?_
        · have hX2 : CoX (up2 (up2 I' (c + 12) i (nI (ableM K i))) (c + 13) i (nI (mk (fun j => decide (j ≠ i) && cls K i j) (K 0 1)))) c K := (hX'.up (by omega)).up (by omega)
          refine V_iload_n dX3_settle_86 rfl rfl (V_aload_n dX3_settle_87 rfl rfl ?_)
          refine V_getI dX3_settle_88 fl_X3_53 (by first | assumption | exact ⟨by decide, rfl⟩) ?_
          refine V_icmp_ge_t (tgt := 129) dX3_settle_91 (by decide) (by rw [hX2.1.2.1]; exact nI_le (Nat.le_refl _) (by omega)) ?_
          refine V_iinc_1 (w := 1) dX3_settle_129 (by decide) (by decide) rfl (V_goto (tgt := 2) dX3_settle_132 (by decide) ?_)
          rw [nI_1]
          refine V_forget (ih _ (fun a b h1 h2 => ?_) (fun q hq => ?_)) (by simp [lessb])
          · rw [up2_k _ _ _ h2, up2_k _ _ _ h1]; exact hI a b h1 h2
          · by_cases hqi : q = i
            · subst hqi
              rw [up2_k _ _ _ (by omega), up2_self, up2_self]
              exact ⟨rfl, rfl⟩
            · rw [up2_k _ _ _ (by omega), up2_ne _ _ (by omega), up2_ne _ _ (by omega), up2_k _ _ _ (by omega)]
              exact hs q (by omega)
        · intro j hj ihj
          have hX2 : CoX (up2 (up2 I' (c + 12) i (nI (ableM K i))) (c + 13) i (nI (mk (fun j => decide (j ≠ i) && cls K i j) j))) c K := (hX'.up (by omega)).up (by omega)
          by_cases hji : j = i
          · refine V_iload_n dX3_settle_86 rfl rfl (V_aload_n dX3_settle_87 rfl rfl ?_)
            refine V_getI dX3_settle_88 fl_X3_53 (by first | assumption | exact ⟨by decide, rfl⟩) ?_
            refine V_icmp_ge_f (tgt := 129) dX3_settle_91 (by decide) (by rw [hX2.1.2.1]; exact nI_ge hj (by omega)) ?_
            refine V_iload_n dX3_settle_94 rfl rfl (V_iload_n dX3_settle_95 rfl rfl ?_)
            refine V_icmp_eq_t (tgt := 123) dX3_settle_96 (by decide) (by rw [hji]) ?_
            refine V_iinc_2 (w := 1) dX3_settle_123 (by decide) (by decide) rfl (V_goto (tgt := 86) dX3_settle_126 (by decide) ?_)
            rw [nI_1, mk_f (f := fun j => decide (j ≠ i) && cls K i j) (k := j) (by omega) (by simp [hji])]
            exact ihj
          · refine V_iload_n dX3_settle_86 rfl rfl (V_aload_n dX3_settle_87 rfl rfl ?_)
            refine V_getI dX3_settle_88 fl_X3_53 (by first | assumption | exact ⟨by decide, rfl⟩) ?_
            refine V_icmp_ge_f (tgt := 129) dX3_settle_91 (by decide) (by rw [hX2.1.2.1]; exact nI_ge hj (by omega)) ?_
            refine V_iload_n dX3_settle_94 rfl rfl (V_iload_n dX3_settle_95 rfl rfl ?_)
            refine V_icmp_eq_f (tgt := 123) dX3_settle_96 (by decide) (fun z => hji ((nI_eq (by omega) (by omega)).mp z)) ?_
            refine V_aload_n dX3_settle_99 rfl rfl ?_
            refine V_getR dX3_settle_100 fl_X3_36 (by first | assumption | exact ⟨by decide, rfl⟩) (by first | assumption | rfl) ?_
            refine V_iload_n dX3_settle_103 rfl rfl (V_iload_n dX3_settle_104 rfl rfl ?_)
            refine V_cV2i (M' := M_X5_clashes) (d' := 2) dX3_settle_105 (Or.inl ml_X3_142) kb_X5_clashes (by first | assumption | exact ⟨by decide, rfl⟩) (by first | decide | omega) (by simp [Value.category]) ⟨by decide, by decide⟩ ?_
            refine se_clashes hc hB hX2 (by omega) (by omega) (Ne.symm hji) ⟨_, rfl, ?_⟩
            cases hv : cls K i j
            · refine V_if_eq_t (tgt := 123) dX3_settle_108 (by decide) (rfl) ?_
              refine V_iinc_2 (w := 1) dX3_settle_123 (by decide) (by decide) rfl (V_goto (tgt := 86) dX3_settle_126 (by decide) ?_)
              rw [nI_1, mk_f (f := fun j => decide (j ≠ i) && cls K i j) (k := j) (by omega) (by simp [hv])]
              exact ihj
            · refine V_if_eq_f (tgt := 123) dX3_settle_108 (by decide) (by decide) ?_
              refine V_aload_n dX3_settle_111 rfl rfl ?_
              refine V_getR dX3_settle_112 fl_X3_46 (by first | assumption | exact ⟨by decide, rfl⟩) (by first | assumption | rfl) ?_
              refine V_iload_n dX3_settle_115 rfl rfl (V_dup2 dX3_settle_116 rfl rfl ?_)
              refine V_ial dX3_settle_117 (by first | assumption | exact ⟨by decide, rfl⟩) ⟨rfl, by omega⟩ ?_
              refine V_iconst (v := 1) dX3_settle_118 (by decide) (V_iload_n dX3_settle_119 rfl rfl (V_ishl dX3_settle_120 (V_ior dX3_settle_121 ?_)))
              refine V_ias dX3_settle_122 (by first | assumption | exact ⟨by decide, rfl⟩) ⟨rfl, by omega⟩ ?_
              refine V_iinc_2 (w := 1) dX3_settle_123 (by decide) (by decide) rfl (V_goto (tgt := 86) dX3_settle_126 (by decide) ?_)
              rw [nI_1, up2_self, up2_up2, mk_t (f := fun j => decide (j ≠ i) && cls K i j) (k := j) (by omega) (by simp [hv, hji])]
              exact ihj
      -- the first inner loop
      have in1 : ∀ p, p ≤ K 0 0 → V E 3 M_X3_settle Post 19 [some (.ref c), some (.int (nI i)), some (.int (nI p))] [] NE 0 0 (up2 I' (c + 12) i (nI (mk (fun p => may K p i) p))) J (RR co dr cc a1 a2) := by
        refine loop_up _ ?_ ?_
        · have hX1 : CoX (up2 I' (c + 12) i (nI (mk (fun p => may K p i) (K 0 0)))) c K := hX'.up (by omega)
          refine V_iload_n dX3_settle_19 rfl rfl (V_aload_n dX3_settle_20 rfl rfl ?_)
          refine V_getI dX3_settle_21 fl_X3_49 (by first | assumption | exact ⟨by decide, rfl⟩) ?_
          refine V_icmp_ge_t (tgt := 77) dX3_settle_24 (by decide) (by rw [hX1.1.1]; exact nI_le (Nat.le_refl _) (by omega)) ?_
          refine V_aload_n dX3_settle_77 rfl rfl ?_
          refine V_getR dX3_settle_78 fl_X3_46 (by first | assumption | exact ⟨by decide, rfl⟩) (by first | assumption | rfl) ?_
          refine V_iload_n dX3_settle_81 rfl rfl (V_iconst (v := 0) dX3_settle_82 (by decide) ?_)
          refine V_ias dX3_settle_83 (by first | assumption | exact ⟨by decide, rfl⟩) ⟨rfl, by omega⟩ ?_
          refine V_iconst (v := 0) dX3_settle_84 (by decide) (V_istore_2 dX3_settle_85 (by decide) rfl ?_)
          exact in2 0 (Nat.zero_le _)
        · intro p hp ihp
          have hX1 : CoX (up2 I' (c + 12) i (nI (mk (fun p => may K p i) p))) c K := hX'.up (by omega)
          have ho := hX1.2.2.2.2.2.1 i (by omega)
          have hk := hX1.2.2.2.1 p (by omega)
          have h50 : (decide (K 7 i = p + 1) || (K 3 p).testBit i) = true → V E 3 M_X3_settle Post 50 [some (.ref c), some (.int (nI i)), some (.int (nI p))] [] NE 0 0 (up2 I' (c + 12) i (nI (mk (fun p => may K p i) p))) J (RR co dr cc a1 a2) := by
            intro hor
            refine V_aload_n dX3_settle_50 rfl rfl (V_iload_n dX3_settle_51 rfl rfl (V_iload_n dX3_settle_52 rfl rfl ?_))
            refine V_cV2i (M' := M_X3_isSkilled) (d' := 1) dX3_settle_53 (Or.inl ml_X3_139) kb_X3_isSkilled (by first | assumption | exact ⟨by decide, rfl⟩) (by first | decide | omega) (by simp [Value.category]) ⟨by decide, by decide⟩ ?_
            refine se_isSkilled hc hB hX1 hp hi ⟨_, rfl, ?_⟩
            cases hv : skl K p i
            · refine V_if_eq_t (tgt := 71) dX3_settle_56 (by decide) (rfl) ?_
              refine V_iinc_2 (w := 1) dX3_settle_71 (by decide) (by decide) rfl (V_goto (tgt := 19) dX3_settle_74 (by decide) ?_)
              rw [nI_1, mk_f (f := fun p => may K p i) (k := p) (by omega) (by simp [may, hv])]
              exact ihp
            · refine V_if_eq_f (tgt := 71) dX3_settle_56 (by decide) (by decide) ?_
              refine V_aload_n dX3_settle_59 rfl rfl ?_
              refine V_getR dX3_settle_60 fl_X3_43 (by first | assumption | exact ⟨by decide, rfl⟩) (by first | assumption | rfl) ?_
              refine V_iload_n dX3_settle_63 rfl rfl (V_dup2 dX3_settle_64 rfl rfl ?_)
              refine V_ial dX3_settle_65 (by first | assumption | exact ⟨by decide, rfl⟩) ⟨rfl, by omega⟩ ?_
              refine V_iconst (v := 1) dX3_settle_66 (by decide) (V_iload_n dX3_settle_67 rfl rfl (V_ishl dX3_settle_68 (V_ior dX3_settle_69 ?_)))
              refine V_ias dX3_settle_70 (by first | assumption | exact ⟨by decide, rfl⟩) ⟨rfl, by omega⟩ ?_
              refine V_iinc_2 (w := 1) dX3_settle_71 (by decide) (by decide) rfl (V_goto (tgt := 19) dX3_settle_74 (by decide) ?_)
              rw [nI_1, up2_self, up2_up2, mk_t (f := fun p => may K p i) (k := p) (by omega) (by simp only [may, hv, hor]; rfl)]
              exact ihp
          by_cases how : K 7 i = p + 1
          · refine V_iload_n dX3_settle_19 rfl rfl (V_aload_n dX3_settle_20 rfl rfl ?_)
            refine V_getI dX3_settle_21 fl_X3_49 (by first | assumption | exact ⟨by decide, rfl⟩) ?_
            refine V_icmp_ge_f (tgt := 77) dX3_settle_24 (by decide) (by rw [hX1.1.1]; exact nI_ge hp (by omega)) ?_
            refine V_aload_n dX3_settle_27 rfl rfl ?_
            refine V_getR dX3_settle_28 fl_X3_30 (by first | assumption | exact ⟨by decide, rfl⟩) (by first | assumption | rfl) ?_
            refine V_iload_n dX3_settle_31 rfl rfl ?_
            refine V_ial dX3_settle_32 (by first | assumption | exact ⟨by decide, rfl⟩) ⟨rfl, by omega⟩ ?_
            refine V_iload_n dX3_settle_33 rfl rfl ?_
            refine V_icmp_eq_t (tgt := 50) dX3_settle_34 (by decide) (by rw [ho]; exact (owv_eq hw (by omega)).mpr how) ?_
            exact h50 (by simp [how])
          · refine V_iload_n dX3_settle_19 rfl rfl (V_aload_n dX3_settle_20 rfl rfl ?_)
            refine V_getI dX3_settle_21 fl_X3_49 (by first | assumption | exact ⟨by decide, rfl⟩) ?_
            refine V_icmp_ge_f (tgt := 77) dX3_settle_24 (by decide) (by rw [hX1.1.1]; exact nI_ge hp (by omega)) ?_
            refine V_aload_n dX3_settle_27 rfl rfl ?_
            refine V_getR dX3_settle_28 fl_X3_30 (by first | assumption | exact ⟨by decide, rfl⟩) (by first | assumption | rfl) ?_
            refine V_iload_n dX3_settle_31 rfl rfl ?_
            refine V_ial dX3_settle_32 (by first | assumption | exact ⟨by decide, rfl⟩) ⟨rfl, by omega⟩ ?_
            refine V_iload_n dX3_settle_33 rfl rfl ?_
            refine V_icmp_eq_f (tgt := 50) dX3_settle_34 (by decide) (by rw [ho]; exact fun z => how ((owv_eq hw (by omega)).mp z)) ?_
            refine V_aload_n dX3_settle_37 rfl rfl ?_
            refine V_getR dX3_settle_38 fl_X3_18 (by first | assumption | exact ⟨by decide, rfl⟩) (by first | assumption | rfl) ?_
            refine V_iload_n dX3_settle_41 rfl rfl ?_
            refine V_ial dX3_settle_42 (by first | assumption | exact ⟨by decide, rfl⟩) ⟨rfl, by omega⟩ ?_
            refine V_iload_n dX3_settle_43 rfl rfl ?_
            refine V_cS2i (M' := M_X10_has) (d' := 1) dX3_settle_44 (Or.inr ⟨_, ml_X3_136⟩) kb_X10_has (by first | decide | omega) (by simp [Value.category]) ⟨by decide, by decide⟩ ?_
            rw [hk]
            refine sp_has (lt31 (hB.2.2.1 p) (by omega)) (by omega) ⟨_, rfl, ?_⟩
            cases hv : (K 3 p).testBit i
            · refine V_if_eq_t (tgt := 71) dX3_settle_47 (by decide) (rfl) ?_
              refine V_iinc_2 (w := 1) dX3_settle_71 (by decide) (by decide) rfl (V_goto (tgt := 19) dX3_settle_74 (by decide) ?_)
              rw [nI_1, mk_f (f := fun p => may K p i) (k := p) (by omega) (by simp [may, hv, how])]
              exact ihp
            · refine V_if_eq_f (tgt := 71) dX3_settle_47 (by decide) (by decide) ?_
              exact h50 (by simp [hv])
      exact in1 0 (Nat.zero_le _)
  exact key 0 (Nat.zero_le _) I (fun a b _ _ => rfl) (fun q hq => absurd hq (by omega))
theorem se_addPlayer (hc : c = 4 ∨ c = 18) (hB : KB K) (hX : CoX I c K) {a b : Nat} (ha : a < 2 ^ 31) (hb : b < 2 ^ 31) (Kn : ¬ (K 0 0 < 10 ∧ a ≤ 99 ∧ b ≤ 15) → Post (some (.int 0)) NE I J (RR co dr cc a1 a2)) (Ks : K 0 0 < 10 ∧ a ≤ 99 ∧ b ≤ 15 → ∀ I', (∀ q z, (q < c ∨ c + 11 < q) → I' q z = I q z) → CoX I' c (aPl K a b) → Post (some (.int 1)) NE I' J (RR co dr cc a1 a2)) : Cal E 1 M_X3_addPlayer [.ref c, .int (nI a), .int (nI b)] NE I J (RR co dr cc a1 a2) Post := by
  have hP := hB.1.1
  obtain ⟨_, _, _, _, _, _, _, _, _, _, _, _, _, _, _, _, _, _, _, _, _, _, _⟩ := ef_co (co := co) (dr := dr) (cc := cc) (a1 := a1) (a2 := a2) (hc)
  refine Cal_of kn_X3_addPlayer rfl (Nat.le_of_ble_eq_true rfl) ?_
  have e10 : (10 : Int32) = nI 10 := rfl
  have e99 : (99 : Int32) = nI 99 := rfl
  have e15 : (15 : Int32) = nI 15 := rfl
  by_cases h1 : K 0 0 < 10
  · by_cases h2 : a ≤ 99
    · by_cases h3 : b ≤ 15
      · refine V_aload_n dX3_addPlayer_0 rfl rfl ?_
        refine V_getI dX3_addPlayer_1 fl_X3_49 (by first | assumption | exact ⟨by decide, rfl⟩) ?_
        refine V_bipush (v := 10) dX3_addPlayer_4 (by decide) ?_
        refine V_icmp_ge_f (tgt := 21) dX3_addPlayer_6 (by decide) (by rw [hX.1.1, e10, lit_le (by omega) (by omega)]; omega) ?_
        refine V_iload_n dX3_addPlayer_9 rfl rfl (V_bipush (v := 99) dX3_addPlayer_10 (by decide) ?_)
        refine V_icmp_gt_f (tgt := 21) dX3_addPlayer_12 (by decide) (by rw [e99, lit_lt (by omega) (by omega)]; omega) ?_
        refine V_iload_n dX3_addPlayer_15 rfl rfl (V_bipush (v := 15) dX3_addPlayer_16 (by decide) ?_)
        refine V_icmp_le_t (tgt := 23) dX3_addPlayer_18 (by decide) (by rw [e15, lit_le (by omega) (by omega)]; omega) ?_
        refine V_aload_n dX3_addPlayer_23 rfl rfl ?_
        refine V_getR dX3_addPlayer_24 fl_X3_9 (by first | assumption | exact ⟨by decide, rfl⟩) (by first | assumption | rfl) ?_
        refine V_aload_n dX3_addPlayer_27 rfl rfl ?_
        refine V_getI dX3_addPlayer_28 fl_X3_49 (by first | assumption | exact ⟨by decide, rfl⟩) ?_
        refine V_iload_n dX3_addPlayer_31 rfl rfl ?_
        refine V_ias dX3_addPlayer_32 (by first | assumption | exact ⟨by decide, rfl⟩) ⟨hX.1.1, by omega⟩ ?_
        refine V_aload_n dX3_addPlayer_33 rfl rfl ?_
        refine V_getR dX3_addPlayer_34 fl_X3_15 (by first | assumption | exact ⟨by decide, rfl⟩) (by first | assumption | rfl) ?_
        refine V_aload_n dX3_addPlayer_37 rfl rfl ?_
        refine V_getI dX3_addPlayer_38 fl_X3_49 (by first | assumption | exact ⟨by decide, rfl⟩) ?_
        refine V_iload_n dX3_addPlayer_41 rfl rfl ?_
        refine V_ias dX3_addPlayer_42 (by first | assumption | exact ⟨by decide, rfl⟩) ⟨(by rw [u2n (by omega)]; exact hX.1.1), by omega⟩ ?_
        refine V_aload_n dX3_addPlayer_43 rfl rfl (V_dup dX3_addPlayer_44 rfl ?_)
        refine V_getI dX3_addPlayer_45 fl_X3_49 (by first | assumption | exact ⟨by decide, rfl⟩) ?_
        refine V_iconst (v := 1) dX3_addPlayer_48 (by decide) (V_iadd dX3_addPlayer_49 ?_)
        refine V_putI dX3_addPlayer_50 fl_X3_49 (by first | assumption | exact ⟨by decide, rfl⟩) ?_
        refine V_iconst (v := 1) dX3_addPlayer_53 (by decide) ?_
        refine V_ireturn dX3_addPlayer_54 rfl rfl rfl (by decide) (by decide) ?_
        refine Ks ⟨h1, h2, h3⟩ _ (fun q z hq => ?_) ?_
        · rw [u2n (by omega), u2n (by omega), u2n (by omega)]
        · rw [u2n (by omega), u2n (by omega), hX.1.1, nI_1]
          obtain ⟨⟨x1, x2, x3, x4, x5, x6, x7, x8⟩, ⟨y1, y2⟩, d, e, f, g, k, l⟩ := hX
          refine ⟨⟨?_, ?_, ?_, ?_, ?_, ?_, ?_, ?_⟩, ⟨?_, ?_⟩, fun p hp => ?_, fun p hp => ?_, fun i hi => ?_, fun i hi => ?_, fun s hs => ?_, fun j hj => ?_⟩
          · rw [u2e]; unfold aPl; rw [u2e]
          · rw [u2n (by omega), u2n (by omega), u2n (by omega)]; exact x2
          · rw [u2n (by omega), u2n (by omega), u2n (by omega)]; exact x3
          · rw [u2n (by omega), u2n (by omega), u2n (by omega)]; exact x4
          · rw [u2n (by omega), u2n (by omega), u2n (by omega)]; exact x5
          · rw [u2n (by omega), u2n (by omega), u2n (by omega)]; exact x6
          · rw [u2n (by omega), u2n (by omega), u2n (by omega)]; exact x7
          · rw [u2n (by omega), u2n (by omega), u2n (by omega)]; exact x8
          · rw [u2n (by omega), u2n (by omega), u2n (by omega)]; exact y1
          · rw [u2n (by omega), u2n (by omega), u2n (by omega)]; exact y2
          · have hp' : p < K 0 0 + 1 := hp
            by_cases hpe : p = K 0 0
            · subst hpe
              rw [u2n (by omega), u2n (by omega), u2e, u2n (by omega), u2e]
              exact ⟨by unfold aPl; rw [u2n (by omega), u2n (by omega), u2e], by unfold aPl; rw [u2n (by omega), u2e]⟩
            · rw [u2n (by omega), u2n (by omega), u2n (by omega), u2n (by omega), u2n (by omega), u2n (by omega)]
              have := d p (by omega)
              exact ⟨by unfold aPl; rw [u2n (by omega), u2n (by omega), u2n (by omega)]; exact this.1, by unfold aPl; rw [u2n (by omega), u2n (by omega), u2n (by omega)]; exact this.2⟩
          · rw [u2n (by omega), u2n (by omega), u2n (by omega)]; exact e p hp
          · rw [u2n (by omega), u2n (by omega), u2n (by omega), u2n (by omega), u2n (by omega), u2n (by omega), u2n (by omega), u2n (by omega), u2n (by omega)]; exact f i hi
          · rw [u2n (by omega), u2n (by omega), u2n (by omega)]; exact g i hi
          · rw [u2n (by omega), u2n (by omega), u2n (by omega), u2n (by omega), u2n (by omega), u2n (by omega)]; exact k s hs
          · rw [u2n (by omega), u2n (by omega), u2n (by omega)]; exact l j hj
      · refine V_aload_n dX3_addPlayer_0 rfl rfl ?_
        refine V_getI dX3_addPlayer_1 fl_X3_49 (by first | assumption | exact ⟨by decide, rfl⟩) ?_
        refine V_bipush (v := 10) dX3_addPlayer_4 (by decide) ?_
        refine V_icmp_ge_f (tgt := 21) dX3_addPlayer_6 (by decide) (by rw [hX.1.1, e10, lit_le (by omega) (by omega)]; omega) ?_
        refine V_iload_n dX3_addPlayer_9 rfl rfl (V_bipush (v := 99) dX3_addPlayer_10 (by decide) ?_)
        refine V_icmp_gt_f (tgt := 21) dX3_addPlayer_12 (by decide) (by rw [e99, lit_lt (by omega) (by omega)]; omega) ?_
        refine V_iload_n dX3_addPlayer_15 rfl rfl (V_bipush (v := 15) dX3_addPlayer_16 (by decide) ?_)
        refine V_icmp_le_f (tgt := 23) dX3_addPlayer_18 (by decide) (by rw [e15, lit_le (by omega) (by omega)]; omega) ?_
        refine V_iconst (v := 0) dX3_addPlayer_21 (by decide) ?_
        refine V_ireturn dX3_addPlayer_22 rfl rfl rfl (by decide) (by decide) ?_
        exact Kn (by omega)
    · refine V_aload_n dX3_addPlayer_0 rfl rfl ?_
      refine V_getI dX3_addPlayer_1 fl_X3_49 (by first | assumption | exact ⟨by decide, rfl⟩) ?_
      refine V_bipush (v := 10) dX3_addPlayer_4 (by decide) ?_
      refine V_icmp_ge_f (tgt := 21) dX3_addPlayer_6 (by decide) (by rw [hX.1.1, e10, lit_le (by omega) (by omega)]; omega) ?_
      refine V_iload_n dX3_addPlayer_9 rfl rfl (V_bipush (v := 99) dX3_addPlayer_10 (by decide) ?_)
      refine V_icmp_gt_t (tgt := 21) dX3_addPlayer_12 (by decide) (by rw [e99, lit_lt (by omega) (by omega)]; omega) ?_
      refine V_iconst (v := 0) dX3_addPlayer_21 (by decide) ?_
      refine V_ireturn dX3_addPlayer_22 rfl rfl rfl (by decide) (by decide) ?_
      exact Kn (by omega)
  · refine V_aload_n dX3_addPlayer_0 rfl rfl ?_
    refine V_getI dX3_addPlayer_1 fl_X3_49 (by first | assumption | exact ⟨by decide, rfl⟩) ?_
    refine V_bipush (v := 10) dX3_addPlayer_4 (by decide) ?_
    refine V_icmp_ge_t (tgt := 21) dX3_addPlayer_6 (by decide) (by rw [hX.1.1, e10, lit_le (by omega) (by omega)]; omega) ?_
    refine V_iconst (v := 0) dX3_addPlayer_21 (by decide) ?_
    refine V_ireturn dX3_addPlayer_22 rfl rfl rfl (by decide) (by decide) ?_
    exact Kn (by omega)
theorem se_addPart (hc : c = 4 ∨ c = 18) (hB : KB K) (hX : CoX I c K) {a b f d : Nat} (ha : a < 2 ^ 31) (hb : b < 2 ^ 31) (hf : f ≤ 999) (hd : d < 2 ^ 31) (Kn : ¬ (K 0 1 < 8 ∧ a ≤ 99 ∧ b ≤ 15 ∧ 1 ≤ f ∧ d ≤ 1) → Post (some (.int 0)) NE I J (RR co dr cc a1 a2)) (Ks : K 0 1 < 8 ∧ a ≤ 99 ∧ b ≤ 15 ∧ 1 ≤ f ∧ d ≤ 1 → ∀ I', (∀ q z, (q < c ∨ c + 11 < q) → I' q z = I q z) → CoX I' c (aPa K a b f d) → Post (some (.int 1)) NE I' J (RR co dr cc a1 a2)) : Cal E 1 M_X3_addPart [.ref c, .int (nI a), .int (nI b), .int (nI f), .int (nI d)] NE I J (RR co dr cc a1 a2) Post := by
  have hQ := hB.1.2.1
  obtain ⟨_, _, _, _, _, _, _, _, _, _, _, _, _, _, _, _, _, _, _, _, _, _, _⟩ := ef_co (co := co) (dr := dr) (cc := cc) (a1 := a1) (a2 := a2) (hc)
  refine Cal_of kn_X3_addPart rfl (Nat.le_of_ble_eq_true rfl) ?_
  have e8 : (8 : Int32) = nI 8 := rfl
  have e99 : (99 : Int32) = nI 99 := rfl
  have e15 : (15 : Int32) = nI 15 := rfl
  have e1 : (1 : Int32) = nI 1 := rfl
  have e999 : (999 : Int32) = nI 999 := rfl
  have hx1 := hX.1.2.1
  by_cases h1 : K 0 1 < 8
  · by_cases h2 : a ≤ 99
    · by_cases h3 : b ≤ 15
      · by_cases h4 : 1 ≤ f
        · by_cases h5 : d ≤ 1
          · refine V_aload_n dX3_addPart_0 rfl rfl ?_
            refine V_getI dX3_addPart_1 fl_X3_53 (by first | assumption | exact ⟨by decide, rfl⟩) ?_
            refine V_bipush (v := 8) dX3_addPart_4 (by decide) ?_
            refine V_icmp_ge_f (tgt := 39) dX3_addPart_6 (by decide) (by rw [hx1, e8, lit_le (by omega) (by omega)]; omega) ?_
            refine V_iload_n dX3_addPart_9 rfl rfl (V_bipush (v := 99) dX3_addPart_10 (by decide) ?_)
            refine V_icmp_gt_f (tgt := 39) dX3_addPart_12 (by decide) (by rw [e99, lit_lt (by omega) (by omega)]; omega) ?_
            refine V_iload_n dX3_addPart_15 rfl rfl (V_bipush (v := 15) dX3_addPart_16 (by decide) ?_)
            refine V_icmp_gt_f (tgt := 39) dX3_addPart_18 (by decide) (by rw [e15, lit_lt (by omega) (by omega)]; omega) ?_
            refine V_iload_n dX3_addPart_21 rfl rfl (V_iconst (v := 1) dX3_addPart_22 (by decide) ?_)
            refine V_icmp_lt_f (tgt := 39) dX3_addPart_23 (by decide) (by rw [e1, lit_lt (by omega) (by omega)]; omega) ?_
            refine V_iload_n dX3_addPart_26 rfl rfl (V_sipush (v := 999) dX3_addPart_27 (by decide) ?_)
            refine V_icmp_gt_f (tgt := 39) dX3_addPart_30 (by decide) (by rw [e999, lit_lt (by omega) (by omega)]; omega) ?_
            refine V_iload dX3_addPart_33 rfl (V_iconst (v := 1) dX3_addPart_35 (by decide) ?_)
            refine V_icmp_le_t (tgt := 41) dX3_addPart_36 (by decide) (by rw [e1, lit_le (by omega) (by omega)]; omega) ?_
            refine V_aload_n dX3_addPart_41 rfl rfl ?_
            refine V_getR dX3_addPart_42 fl_X3_21 (by first | assumption | exact ⟨by decide, rfl⟩) (by first | assumption | rfl) ?_
            refine V_aload_n dX3_addPart_45 rfl rfl ?_
            refine V_getI dX3_addPart_46 fl_X3_53 (by first | assumption | exact ⟨by decide, rfl⟩) ?_
            refine V_iload_n dX3_addPart_49 rfl rfl ?_
            refine V_ias dX3_addPart_50 (by first | assumption | exact ⟨by decide, rfl⟩) ⟨hx1, by omega⟩ ?_
            refine V_aload_n dX3_addPart_51 rfl rfl ?_
            refine V_getR dX3_addPart_52 fl_X3_24 (by first | assumption | exact ⟨by decide, rfl⟩) (by first | assumption | rfl) ?_
            refine V_aload_n dX3_addPart_55 rfl rfl ?_
            refine V_getI dX3_addPart_56 fl_X3_53 (by first | assumption | exact ⟨by decide, rfl⟩) ?_
            refine V_iload_n dX3_addPart_59 rfl rfl ?_
            refine V_ias dX3_addPart_60 (by first | assumption | exact ⟨by decide, rfl⟩) ⟨(by rw [u2n (by omega)]; exact hx1), by omega⟩ ?_
            refine V_aload_n dX3_addPart_61 rfl rfl ?_
            refine V_getR dX3_addPart_62 fl_X3_27 (by first | assumption | exact ⟨by decide, rfl⟩) (by first | assumption | rfl) ?_
            refine V_aload_n dX3_addPart_65 rfl rfl ?_
            refine V_getI dX3_addPart_66 fl_X3_53 (by first | assumption | exact ⟨by decide, rfl⟩) ?_
            refine V_iload_n dX3_addPart_69 rfl rfl ?_
            refine V_ias dX3_addPart_70 (by first | assumption | exact ⟨by decide, rfl⟩) ⟨(by rw [u2n (by omega), u2n (by omega)]; exact hx1), by omega⟩ ?_
            refine V_aload_n dX3_addPart_71 rfl rfl (V_dup dX3_addPart_72 rfl ?_)
            refine V_getI dX3_addPart_73 fl_X3_59 (by first | assumption | exact ⟨by decide, rfl⟩) ?_
            refine V_iload dX3_addPart_76 rfl (V_aload_n dX3_addPart_78 rfl rfl ?_)
            refine V_getI dX3_addPart_79 fl_X3_53 (by first | assumption | exact ⟨by decide, rfl⟩) ?_
            refine V_ishl dX3_addPart_82 (V_ior dX3_addPart_83 ?_)
            refine V_putI dX3_addPart_84 fl_X3_59 (by first | assumption | exact ⟨by decide, rfl⟩) ?_
            refine V_aload_n dX3_addPart_87 rfl rfl (V_dup dX3_addPart_88 rfl ?_)
            refine V_getI dX3_addPart_89 fl_X3_53 (by first | assumption | exact ⟨by decide, rfl⟩) ?_
            refine V_iconst (v := 1) dX3_addPart_92 (by decide) (V_iadd dX3_addPart_93 ?_)
            refine V_putI dX3_addPart_94 fl_X3_53 (by first | assumption | exact ⟨by decide, rfl⟩) ?_
            refine V_iconst (v := 1) dX3_addPart_97 (by decide) ?_
            refine V_ireturn dX3_addPart_98 rfl rfl rfl (by decide) (by decide) ?_
            refine Ks ⟨h1, h2, h3, h4, h5⟩ _ (fun q z hq => ?_) ?_
            · rw [u2n (by omega), u2n (by omega), u2n (by omega), u2n (by omega), u2n (by omega)]
            · obtain ⟨x1, x2, x3, x4, x5, x6, x7, x8, y1, y2, d1, d2, d3, f1, f2, f3, g, k1, k2, l⟩ := hX.all
              have ec : nI (cutM K) ||| (nI d <<< (nI (K 0 1) &&& 31)) = nI (cutM (aPa K a b f d)) := by
                have q1 : aPa K a b f d 0 1 = K 0 1 + 1 := by simp [aPa, up2]
                have q2 : aPa K a b f d 8 (K 0 1) = d := by simp [aPa, up2]
                have q3 : ∀ i, i < K 0 1 → aPa K a b f d 8 i = K 8 i := fun i hi => by
                  have : i ≠ K 0 1 := by omega
                  simp [aPa, up2, this]
                have e9 : cutM (aPa K a b f d) = (if d = 1 then cutM K ||| 2 ^ K 0 1 else cutM K) := by
                  unfold cutM
                  rw [q1]
                  show (if decide (aPa K a b f d 8 (K 0 1) = 1) = true then mk _ (K 0 1) ||| 2 ^ K 0 1 else mk _ (K 0 1)) = _
                  rw [q2, mk_ext (f := fun i => decide (aPa K a b f d 8 i = 1)) (g := fun i => decide (K 8 i = 1)) (fun i hi => by rw [q3 i hi])]
                  simp
                rw [shl_nI (by omega) (by have : 2 ^ K 0 1 < 2 ^ 8 := Nat.pow_lt_pow_right (by decide) h1; have : d * 2 ^ K 0 1 ≤ 1 * 2 ^ K 0 1 := Nat.mul_le_mul_right _ h5; omega), or_nI, e9]
                rcases (show d = 0 ∨ d = 1 by omega) with rfl | rfl
                · simp
                · simp
              refine CoX.mk ?_ ?_ ?_ ?_ ?_ ?_ ?_ ?_ ?_ ?_ (fun p hp => ?_) (fun p hp => ?_) (fun p hp => ?_) (fun p hp => ?_) (fun p hp => ?_) (fun p hp => ?_) (fun p hp => ?_) (fun p hp => ?_) (fun p hp => ?_) (fun p hp => ?_)
              · simp [up2, aPa, x1]
              · simp [up2, aPa, x2, nI_1]
              · simp [up2, aPa, x3]
              · rw [← ec]; simp [up2, x2, x4]
              · simp [up2, aPa, x5]
              · simp [up2, aPa, x6]
              · simp [up2, aPa, x7]
              · simp [up2, aPa, x8]
              · simp [up2, aPa, y1]
              · simp [up2, aPa, y2]
              · have hp : p < K 0 0 := by simpa [aPa, up2] using hp
                simp [up2, aPa, d1 p hp]
              · have hp : p < K 0 0 := by simpa [aPa, up2] using hp
                simp [up2, aPa, d2 p hp]
              · simp [up2, aPa, d3 p hp]
              · have hp : p < K 0 1 + 1 := by simpa [aPa, up2] using hp
                by_cases hpe : p = K 0 1
                · simp [up2, aPa, hpe]
                · simp [up2, aPa, hpe, f1 p (by omega)]
              · have hp : p < K 0 1 + 1 := by simpa [aPa, up2] using hp
                by_cases hpe : p = K 0 1
                · simp [up2, aPa, hpe]
                · simp [up2, aPa, hpe, f2 p (by omega)]
              · have hp : p < K 0 1 + 1 := by simpa [aPa, up2] using hp
                by_cases hpe : p = K 0 1
                · simp [up2, aPa, hpe]
                · simp [up2, aPa, hpe, f3 p (by omega)]
              · simp [up2, aPa, g p hp]
              · have hp : p < K 0 2 := by simpa [aPa, up2] using hp
                simp [up2, aPa, k1 p hp]
              · have hp : p < K 0 2 := by simpa [aPa, up2] using hp
                simp [up2, aPa, k2 p hp]
              · simp [up2, aPa, l p hp]
          · refine V_aload_n dX3_addPart_0 rfl rfl ?_
            refine V_getI dX3_addPart_1 fl_X3_53 (by first | assumption | exact ⟨by decide, rfl⟩) ?_
            refine V_bipush (v := 8) dX3_addPart_4 (by decide) ?_
            refine V_icmp_ge_f (tgt := 39) dX3_addPart_6 (by decide) (by rw [hx1, e8, lit_le (by omega) (by omega)]; omega) ?_
            refine V_iload_n dX3_addPart_9 rfl rfl (V_bipush (v := 99) dX3_addPart_10 (by decide) ?_)
            refine V_icmp_gt_f (tgt := 39) dX3_addPart_12 (by decide) (by rw [e99, lit_lt (by omega) (by omega)]; omega) ?_
            refine V_iload_n dX3_addPart_15 rfl rfl (V_bipush (v := 15) dX3_addPart_16 (by decide) ?_)
            refine V_icmp_gt_f (tgt := 39) dX3_addPart_18 (by decide) (by rw [e15, lit_lt (by omega) (by omega)]; omega) ?_
            refine V_iload_n dX3_addPart_21 rfl rfl (V_iconst (v := 1) dX3_addPart_22 (by decide) ?_)
            refine V_icmp_lt_f (tgt := 39) dX3_addPart_23 (by decide) (by rw [e1, lit_lt (by omega) (by omega)]; omega) ?_
            refine V_iload_n dX3_addPart_26 rfl rfl (V_sipush (v := 999) dX3_addPart_27 (by decide) ?_)
            refine V_icmp_gt_f (tgt := 39) dX3_addPart_30 (by decide) (by rw [e999, lit_lt (by omega) (by omega)]; omega) ?_
            refine V_iload dX3_addPart_33 rfl (V_iconst (v := 1) dX3_addPart_35 (by decide) ?_)
            refine V_icmp_le_f (tgt := 41) dX3_addPart_36 (by decide) (by rw [e1, lit_le (by omega) (by omega)]; omega) ?_
            refine V_iconst (v := 0) dX3_addPart_39 (by decide) ?_
            refine V_ireturn dX3_addPart_40 rfl rfl rfl (by decide) (by decide) ?_
            exact Kn (by omega)
        · refine V_aload_n dX3_addPart_0 rfl rfl ?_
          refine V_getI dX3_addPart_1 fl_X3_53 (by first | assumption | exact ⟨by decide, rfl⟩) ?_
          refine V_bipush (v := 8) dX3_addPart_4 (by decide) ?_
          refine V_icmp_ge_f (tgt := 39) dX3_addPart_6 (by decide) (by rw [hx1, e8, lit_le (by omega) (by omega)]; omega) ?_
          refine V_iload_n dX3_addPart_9 rfl rfl (V_bipush (v := 99) dX3_addPart_10 (by decide) ?_)
          refine V_icmp_gt_f (tgt := 39) dX3_addPart_12 (by decide) (by rw [e99, lit_lt (by omega) (by omega)]; omega) ?_
          refine V_iload_n dX3_addPart_15 rfl rfl (V_bipush (v := 15) dX3_addPart_16 (by decide) ?_)
          refine V_icmp_gt_f (tgt := 39) dX3_addPart_18 (by decide) (by rw [e15, lit_lt (by omega) (by omega)]; omega) ?_
          refine V_iload_n dX3_addPart_21 rfl rfl (V_iconst (v := 1) dX3_addPart_22 (by decide) ?_)
          refine V_icmp_lt_t (tgt := 39) dX3_addPart_23 (by decide) (by rw [e1, lit_lt (by omega) (by omega)]; omega) ?_
          refine V_iconst (v := 0) dX3_addPart_39 (by decide) ?_
          refine V_ireturn dX3_addPart_40 rfl rfl rfl (by decide) (by decide) ?_
          exact Kn (by omega)
      · refine V_aload_n dX3_addPart_0 rfl rfl ?_
        refine V_getI dX3_addPart_1 fl_X3_53 (by first | assumption | exact ⟨by decide, rfl⟩) ?_
        refine V_bipush (v := 8) dX3_addPart_4 (by decide) ?_
        refine V_icmp_ge_f (tgt := 39) dX3_addPart_6 (by decide) (by rw [hx1, e8, lit_le (by omega) (by omega)]; omega) ?_
        refine V_iload_n dX3_addPart_9 rfl rfl (V_bipush (v := 99) dX3_addPart_10 (by decide) ?_)
        refine V_icmp_gt_f (tgt := 39) dX3_addPart_12 (by decide) (by rw [e99, lit_lt (by omega) (by omega)]; omega) ?_
        refine V_iload_n dX3_addPart_15 rfl rfl (V_bipush (v := 15) dX3_addPart_16 (by decide) ?_)
        refine V_icmp_gt_t (tgt := 39) dX3_addPart_18 (by decide) (by rw [e15, lit_lt (by omega) (by omega)]; omega) ?_
        refine V_iconst (v := 0) dX3_addPart_39 (by decide) ?_
        refine V_ireturn dX3_addPart_40 rfl rfl rfl (by decide) (by decide) ?_
        exact Kn (by omega)
    · refine V_aload_n dX3_addPart_0 rfl rfl ?_
      refine V_getI dX3_addPart_1 fl_X3_53 (by first | assumption | exact ⟨by decide, rfl⟩) ?_
      refine V_bipush (v := 8) dX3_addPart_4 (by decide) ?_
      refine V_icmp_ge_f (tgt := 39) dX3_addPart_6 (by decide) (by rw [hx1, e8, lit_le (by omega) (by omega)]; omega) ?_
      refine V_iload_n dX3_addPart_9 rfl rfl (V_bipush (v := 99) dX3_addPart_10 (by decide) ?_)
      refine V_icmp_gt_t (tgt := 39) dX3_addPart_12 (by decide) (by rw [e99, lit_lt (by omega) (by omega)]; omega) ?_
      refine V_iconst (v := 0) dX3_addPart_39 (by decide) ?_
      refine V_ireturn dX3_addPart_40 rfl rfl rfl (by decide) (by decide) ?_
      exact Kn (by omega)
  · refine V_aload_n dX3_addPart_0 rfl rfl ?_
    refine V_getI dX3_addPart_1 fl_X3_53 (by first | assumption | exact ⟨by decide, rfl⟩) ?_
    refine V_bipush (v := 8) dX3_addPart_4 (by decide) ?_
    refine V_icmp_ge_t (tgt := 39) dX3_addPart_6 (by decide) (by rw [hx1, e8, lit_le (by omega) (by omega)]; omega) ?_
    refine V_iconst (v := 0) dX3_addPart_39 (by decide) ?_
    refine V_ireturn dX3_addPart_40 rfl rfl rfl (by decide) (by decide) ?_
    exact Kn (by omega)
theorem se_giveOwn (hc : c = 4 ∨ c = 18) (hB : KB K) (hX : CoX I c K) {a b : Nat} (ha : a < 2 ^ 31) (hb : b < 2 ^ 31) (Kn : ¬ (a < K 0 0 ∧ b < K 0 1) → Post (some (.int 0)) NE I J (RR co dr cc a1 a2)) (Ks : a < K 0 0 ∧ b < K 0 1 → ∀ I', (∀ q z, (q < c ∨ c + 11 < q) → I' q z = I q z) → CoX I' c (aOw K a b) → Post (some (.int 1)) NE I' J (RR co dr cc a1 a2)) : Cal E 2 M_X3_giveOwn [.ref c, .int (nI a), .int (nI b)] NE I J (RR co dr cc a1 a2) Post := by
  have hP := hB.1.1
  have hQ := hB.1.2.1
  obtain ⟨_, _, _, _, _, _, _, _, _, _, _, _, _, _, _, _, _, _, _, _, _, _, _⟩ := ef_co (co := co) (dr := dr) (cc := cc) (a1 := a1) (a2 := a2) (hc)
  refine Cal_of kn_X3_giveOwn rfl (Nat.le_of_ble_eq_true rfl) ?_
  refine V_aload_n dX3_giveOwn_0 rfl rfl (V_iload_n dX3_giveOwn_1 rfl rfl ?_)
  refine V_cV1i (M' := M_X3_hasPlayer) (d' := 1) dX3_giveOwn_2 (Or.inl ml_X3_127) kb_X3_hasPlayer (by first | assumption | exact ⟨by decide, rfl⟩) (by first | decide | omega) (by simp [Value.category]) ⟨by decide, by decide⟩ ?_
  refine se_hasPlayer hc hX.1.1 (by omega) ⟨_, rfl, ?_⟩
  rw [inR_nI ha]
  by_cases h1 : a < K 0 0
  · rw [decide_eq_true h1]
    refine V_if_eq_f (tgt := 16) dX3_giveOwn_5 (by decide) (by decide) ?_
    refine V_aload_n dX3_giveOwn_8 rfl rfl (V_iload_n dX3_giveOwn_9 rfl rfl ?_)
    refine V_cV1i (M' := M_X3_hasPart) (d' := 1) dX3_giveOwn_10 (Or.inl ml_X3_130) kb_X3_hasPart (by first | assumption | exact ⟨by decide, rfl⟩) (by first | decide | omega) (by simp [Value.category]) ⟨by decide, by decide⟩ ?_
    refine se_hasPart hc hX.1.2.1 (by omega) ⟨_, rfl, ?_⟩
    rw [inR_nI hb]
    by_cases h2 : b < K 0 1
    · rw [decide_eq_true h2]
      refine V_if_ne_t (tgt := 18) dX3_giveOwn_13 (by decide) (by decide) ?_
      refine V_aload_n dX3_giveOwn_18 rfl rfl ?_
      refine V_getR dX3_giveOwn_19 fl_X3_30 (by first | assumption | exact ⟨by decide, rfl⟩) (by first | assumption | rfl) ?_
      refine V_iload_n dX3_giveOwn_22 rfl rfl (V_iload_n dX3_giveOwn_23 rfl rfl ?_)
      refine V_ias dX3_giveOwn_24 (by first | assumption | exact ⟨by decide, rfl⟩) ⟨rfl, by omega⟩ ?_
      refine V_iconst (v := 1) dX3_giveOwn_25 (by decide) ?_
      refine V_ireturn dX3_giveOwn_26 rfl rfl rfl (by decide) (by decide) ?_
      refine Ks ⟨h1, h2⟩ _ (fun q z hq => ?_) ?_
      · rw [u2n (by omega)]
      · obtain ⟨x1, x2, x3, x4, x5, x6, x7, x8, y1, y2, d1, d2, d3, f1, f2, f3, g, k1, k2, l⟩ := hX.all
        refine CoX.mk ?_ ?_ ?_ ?_ ?_ ?_ ?_ ?_ ?_ ?_ (fun p hp => ?_) (fun p hp => ?_) (fun p hp => ?_) (fun p hp => ?_) (fun p hp => ?_) (fun p hp => ?_) (fun p hp => ?_) (fun p hp => ?_) (fun p hp => ?_) (fun p hp => ?_)
        · simp [up2, aOw, x1, nI_1]
        · simp [up2, aOw, x2, nI_1]
        · simp [up2, aOw, x3, nI_1]
        · rw [cutM_of (K := K) (by simp [up2, aOw]) (by intro i hi; simp [up2, aOw])]; simp [up2, x4]
        · simp [up2, aOw, x5, nI_1]
        · simp [up2, aOw, x6, nI_1]
        · simp [up2, aOw, x7, nI_1]
        · simp [up2, aOw, x8, nI_1]
        · simp [up2, aOw, y1, nI_1]
        · simp [up2, aOw, y2, nI_1]
        · have hp : p < K 0 0 := by simpa [up2, aOw] using hp
          simp [up2, aOw, d1 p hp]
        · have hp : p < K 0 0 := by simpa [up2, aOw] using hp
          simp [up2, aOw, d2 p hp]
        · simp [up2, aOw, d3 p hp]
        · have hp : p < K 0 1 := by simpa [up2, aOw] using hp
          simp [up2, aOw, f1 p hp]
        · have hp : p < K 0 1 := by simpa [up2, aOw] using hp
          simp [up2, aOw, f2 p hp]
        · have hp : p < K 0 1 := by simpa [up2, aOw] using hp
          simp [up2, aOw, f3 p hp]
        · by_cases hpe : p = b
          · simp [up2, aOw, hpe, owv]
          · simp [up2, aOw, hpe, g p hp]
        · have hp : p < K 0 2 := by simpa [up2, aOw] using hp
          simp [up2, aOw, k1 p hp]
        · have hp : p < K 0 2 := by simpa [up2, aOw] using hp
          simp [up2, aOw, k2 p hp]
        · simp [up2, aOw, l p hp]
    · rw [decide_eq_false h2]
      refine V_if_ne_f (tgt := 18) dX3_giveOwn_13 (by decide) (rfl) ?_
      refine V_iconst (v := 0) dX3_giveOwn_16 (by decide) ?_
      refine V_ireturn dX3_giveOwn_17 rfl rfl rfl (by decide) (by decide) ?_
      exact Kn (by omega)
  · rw [decide_eq_false h1]
    refine V_if_eq_t (tgt := 16) dX3_giveOwn_5 (by decide) (rfl) ?_
    refine V_iconst (v := 0) dX3_giveOwn_16 (by decide) ?_
    refine V_ireturn dX3_giveOwn_17 rfl rfl rfl (by decide) (by decide) ?_
    exact Kn (by omega)
theorem se_plClear (hc : c = 4 ∨ c = 18) (Kk : Post none NE (up2 (up2 I (c + 8) 0 0) (c + 8) 1 0) J (RR co dr cc a1 a2)) : Cal E 1 M_X5_clear [.ref (c + 8)] NE I J (RR co dr cc a1 a2) Post := by
  obtain ⟨_, _, _, _, _⟩ := ef_pl (co := co) (dr := dr) (cc := cc) (a1 := a1) (a2 := a2) (co_pl hc)
  refine Cal_of kn_X5_clear rfl (Nat.le_of_ble_eq_true rfl) ?_
  refine V_aload_n dX5_clear_0 rfl rfl (V_iconst (v := 0) dX5_clear_1 (by decide) ?_)
  refine V_putI dX5_clear_2 fl_X5_18 (by first | assumption | exact ⟨by decide, rfl⟩) ?_
  refine V_aload_n dX5_clear_5 rfl rfl (V_iconst (v := 0) dX5_clear_6 (by decide) ?_)
  refine V_putI dX5_clear_7 fl_X5_22 (by first | assumption | exact ⟨by decide, rfl⟩) ?_
  refine V_return dX5_clear_10 rfl rfl (by decide) (by decide) ?_
  exact Kk
theorem se_coClear (hc : c = 4 ∨ c = 18) (Kk : ∀ I', (∀ q z, (q < c ∨ c + 11 < q) → I' q z = I q z) → CoX I' c K0 → Post none NE I' J (RR co dr cc a1 a2)) : Cal E 2 M_X3_clear [.ref c] NE I J (RR co dr cc a1 a2) Post := by
  obtain ⟨_, _, _, _, _, _, _, _, _, _, _, _, _, _, _, _, _, _, _, _, _, _, _⟩ := ef_co (co := co) (dr := dr) (cc := cc) (a1 := a1) (a2 := a2) (hc)
  obtain ⟨_, _, _, _, _⟩ := ef_pl (co := co) (dr := dr) (cc := cc) (a1 := a1) (a2 := a2) (co_pl hc)
  refine Cal_of kn_X3_clear rfl (Nat.le_of_ble_eq_true rfl) ?_
  refine V_aload_n dX3_clear_0 rfl rfl (V_iconst (v := 0) dX3_clear_1 (by decide) ?_)
  refine V_putI dX3_clear_2 fl_X3_49 (by first | assumption | exact ⟨by decide, rfl⟩) ?_
  refine V_aload_n dX3_clear_5 rfl rfl (V_iconst (v := 0) dX3_clear_6 (by decide) ?_)
  refine V_putI dX3_clear_7 fl_X3_53 (by first | assumption | exact ⟨by decide, rfl⟩) ?_
  refine V_aload_n dX3_clear_10 rfl rfl (V_iconst (v := 0) dX3_clear_11 (by decide) ?_)
  refine V_putI dX3_clear_12 fl_X3_56 (by first | assumption | exact ⟨by decide, rfl⟩) ?_
  refine V_aload_n dX3_clear_15 rfl rfl (V_iconst (v := 0) dX3_clear_16 (by decide) ?_)
  refine V_putI dX3_clear_17 fl_X3_59 (by first | assumption | exact ⟨by decide, rfl⟩) ?_
  refine V_aload_n dX3_clear_20 rfl rfl ?_
  refine V_getR dX3_clear_21 fl_X3_18 (by first | assumption | exact ⟨by decide, rfl⟩) (by first | assumption | rfl) ?_
  refine V_iconst (v := 0) dX3_clear_24 (by decide) ?_
  refine V_cS2v (M' := M_J7_fill_53178) (d' := 1) dX3_clear_25 (Or.inl ml_X3_62) kb_J7_fill_53178 (by first | decide | omega) (by simp [Value.category]) ⟨by decide, by decide⟩ ?_
  refine sp_fill (len := 10) (by assumption) (fun I1 h1 => ⟨rfl, ?_⟩)
  refine V_aload_n dX3_clear_28 rfl rfl ?_
  refine V_getR dX3_clear_29 fl_X3_30 (by first | assumption | exact ⟨by decide, rfl⟩) (by first | assumption | rfl) ?_
  refine V_bipush (v := (-4)) dX3_clear_32 (by decide) ?_
  refine V_cS2v (M' := M_J7_fill_53178) (d' := 1) dX3_clear_34 (Or.inl ml_X3_62) kb_J7_fill_53178 (by first | decide | omega) (by simp [Value.category]) ⟨by decide, by decide⟩ ?_
  refine sp_fill (len := 8) (by assumption) (fun I2 h2 => ⟨rfl, ?_⟩)
  refine V_aload_n dX3_clear_37 rfl rfl ?_
  refine V_getR dX3_clear_38 fl_X3_40 (by first | assumption | exact ⟨by decide, rfl⟩) (by first | assumption | rfl) ?_
  refine V_iconst (v := 0) dX3_clear_41 (by decide) ?_
  refine V_cS2v (M' := M_J7_fill_53178) (d' := 1) dX3_clear_42 (Or.inl ml_X3_62) kb_J7_fill_53178 (by first | decide | omega) (by simp [Value.category]) ⟨by decide, by decide⟩ ?_
  refine sp_fill (len := 100) (by assumption) (fun I3 h3 => ⟨rfl, ?_⟩)
  refine V_aload_n dX3_clear_45 rfl rfl ?_
  refine V_getR dX3_clear_46 fl_X3_36 (by first | assumption | exact ⟨by decide, rfl⟩) (by first | assumption | rfl) ?_
  refine V_cV0v (M' := M_X5_clear) (d' := 1) dX3_clear_49 (Or.inl ml_X3_68) kb_X5_clear (by first | assumption | exact ⟨by decide, rfl⟩) (by first | decide | omega) (by simp [Value.category]) ⟨by decide, by decide⟩ ?_
  refine se_plClear hc ⟨rfl, ?_⟩
  refine V_aload_n dX3_clear_52 rfl rfl (V_iconst (v := 1) dX3_clear_53 (by decide) ?_)
  refine V_putI dX3_clear_54 fl_X3_71 (by first | assumption | exact ⟨by decide, rfl⟩) ?_
  refine V_aload_n dX3_clear_57 rfl rfl (V_bipush (v := 10) dX3_clear_58 (by decide) ?_)
  refine V_putI dX3_clear_60 fl_X3_74 (by first | assumption | exact ⟨by decide, rfl⟩) ?_
  refine V_aload_n dX3_clear_63 rfl rfl (V_bipush (v := 100) dX3_clear_64 (by decide) ?_)
  refine V_putI dX3_clear_66 fl_X3_77 (by first | assumption | exact ⟨by decide, rfl⟩) ?_
  refine V_aload_n dX3_clear_69 rfl rfl (V_iconst (v := 5) dX3_clear_70 (by decide) ?_)
  refine V_putI dX3_clear_71 fl_X3_80 (by first | assumption | exact ⟨by decide, rfl⟩) ?_
  refine V_return dX3_clear_74 rfl rfl (by decide) (by decide) ?_
  refine Kk _ (fun q z hq => ?_) ?_
  · rw [u2n (by omega), u2n (by omega), u2n (by omega), u2n (by omega), u2n (by omega), u2n (by omega), h3, if_neg (by omega), h2, if_neg (by omega), h1, if_neg (by omega), u2n (by omega), u2n (by omega), u2n (by omega), u2n (by omega)]
  · refine CoX.mk ?_ ?_ ?_ ?_ ?_ ?_ ?_ ?_ ?_ ?_ (fun p hp => ?_) (fun p hp => ?_) (fun p hp => ?_) (fun p hp => ?_) (fun p hp => ?_) (fun p hp => ?_) (fun p hp => ?_) (fun p hp => ?_) (fun p hp => ?_) (fun p hp => ?_)
    · simp [up2, h1, h2, h3, K0, nI_0]
    · simp [up2, h1, h2, h3, K0, nI_0]
    · simp [up2, h1, h2, h3, K0, nI_0]
    · have e : cutM K0 = 0 := rfl
      rw [e]; simp [up2, h1, h2, h3, nI_0]
    · simp [up2, K0]; rfl
    · simp [up2, K0]; rfl
    · simp [up2, K0]; rfl
    · simp [up2, K0]; rfl
    · simp [up2, K0, nI_0]
    · simp [up2, K0, nI_0]
    · exact absurd hp (by simp [K0])
    · exact absurd hp (by simp [K0])
    · simp [up2, h1, h2, h3, hp, K0, nI_0]
    · exact absurd hp (by simp [K0])
    · exact absurd hp (by simp [K0])
    · exact absurd hp (by simp [K0])
    · simp [up2, h2, h3, hp, K0, owv]
    · exact absurd hp (by simp [K0])
    · exact absurd hp (by simp [K0])
    · simp [up2, h3, hp, K0, nI_0]
theorem se_diClear (hc : c = 32 ∨ c = 35 ∨ c = 38) (Kk : ∀ I', (∀ q z, (q < c ∨ c + 2 < q) → I' q z = I q z) → DX I' c 0 (fun _ => 0) (fun _ => 0) → Post none NE I' J (RR co dr cc a1 a2)) : Cal E 2 M_X4_clear [.ref c] NE I J (RR co dr cc a1 a2) Post := by
  obtain ⟨_, _, _, _, _⟩ := ef_di (co := co) (dr := dr) (cc := cc) (a1 := a1) (a2 := a2) (hc)
  refine Cal_of kn_X4_clear rfl (Nat.le_of_ble_eq_true rfl) ?_
  refine V_aload_n dX4_clear_0 rfl rfl (V_iconst (v := 0) dX4_clear_1 (by decide) ?_)
  refine V_putI dX4_clear_2 fl_X4_18 (by first | assumption | exact ⟨by decide, rfl⟩) ?_
  refine V_aload_n dX4_clear_5 rfl rfl ?_
  refine V_getR dX4_clear_6 fl_X4_9 (by first | assumption | exact ⟨by decide, rfl⟩) (by first | assumption | rfl) ?_
  refine V_iconst (v := 0) dX4_clear_9 (by decide) ?_
  refine V_cS2v (M' := M_J7_fill_53178) (d' := 1) dX4_clear_10 (Or.inl ml_X4_22) kb_J7_fill_53178 (by first | decide | omega) (by simp [Value.category]) ⟨by decide, by decide⟩ ?_
  refine sp_fill (len := 10) (by assumption) (fun I1 h1 => ⟨rfl, ?_⟩)
  refine V_aload_n dX4_clear_13 rfl rfl ?_
  refine V_getR dX4_clear_14 fl_X4_15 (by first | assumption | exact ⟨by decide, rfl⟩) (by first | assumption | rfl) ?_
  refine V_iconst (v := 0) dX4_clear_17 (by decide) ?_
  refine V_cS2v (M' := M_J7_fill_53178) (d' := 1) dX4_clear_18 (Or.inl ml_X4_22) kb_J7_fill_53178 (by first | decide | omega) (by simp [Value.category]) ⟨by decide, by decide⟩ ?_
  refine sp_fill (len := 80) (by assumption) (fun I2 h2 => ⟨rfl, ?_⟩)
  refine V_return dX4_clear_21 rfl rfl (by decide) (by decide) ?_
  refine Kk _ (fun q z hq => ?_) ⟨?_, fun j hj => ?_, fun p hp => ?_⟩
  · rw [h2, if_neg (by omega), h1, if_neg (by omega), u2n (by omega)]
  · rw [h2, if_neg (by omega), h1, if_neg (by omega), u2e, nI_0]
  · rw [h2, if_pos ⟨rfl, hj⟩, nI_0]
  · rw [h2, if_neg (by omega), h1, if_pos ⟨rfl, hp⟩]
theorem se_siForget {d : Nat} (Kk : ∀ I', (∀ x y, (x ≠ 59 ∨ y ≠ 5) → I' x y = I x y) → SIC I' K → Post none NE I' J (RR co dr cc a1 a2)) : Cal E d M_X7_forget [.ref 59] NE I J (RR co dr cc a1 a2) Post := by
  refine Cal_of kn_X7_forget rfl (Nat.le_of_ble_eq_true rfl) ?_
  refine V_aload_n dX7_forget_0 rfl rfl (V_bipush (v := (-4)) dX7_forget_1 (by decide) ?_)
  refine V_putI dX7_forget_3 fl_X7_24 (by first | assumption | exact ⟨by decide, rfl⟩) ?_
  refine V_return dX7_forget_6 rfl rfl (by decide) (by decide) ?_
  exact Kk _ (fun x y h => by rw [u2n h]) (Or.inl (by rw [u2e]))
theorem se_unForget {d : Nat} (Kk : ∀ I', (∀ x y, (x ≠ 53 ∨ (y ≠ 5 ∧ y ≠ 6)) → I' x y = I x y) → UNS I' J K → TWO I' K → Post none NE I' J (RR co dr cc a1 a2)) : Cal E d M_X9_forget [.ref 53] NE I J (RR co dr cc a1 a2) Post := by
  refine Cal_of kn_X9_forget rfl (Nat.le_of_ble_eq_true rfl) ?_
  refine V_aload_n dX9_forget_0 rfl rfl (V_iconst (v := 0) dX9_forget_1 (by decide) ?_)
  refine V_putI dX9_forget_2 fl_X9_29 (by first | assumption | exact ⟨by decide, rfl⟩) ?_
  refine V_aload_n dX9_forget_5 rfl rfl (V_iconst (v := 0) dX9_forget_6 (by decide) ?_)
  refine V_putZ dX9_forget_7 fl_X9_33 (by first | assumption | exact ⟨by decide, rfl⟩) (by first | exact Or.inl rfl | exact Or.inr rfl) ?_
  refine V_return dX9_forget_10 rfl rfl (by decide) (by decide) ?_
  refine Kk _ (fun x y h => by rw [u2n (by omega), u2n (by omega)]) ⟨0, by omega, by rw [u2n (by omega), u2e]; rfl, fun h => by simp at h, fun h => by simp at h⟩ (Or.inl (by rw [u2e]))
theorem se_abForget {d : Nat} (hd : 2 ≤ d) (hP : K 0 0 ≤ 10) (Kk : ∀ I', (∀ x y, x ≠ 49 → I' x y = I x y) → ANS I' K → Post none NE I' J (RR co dr cc a1 a2)) : Cal E d M_X0_forget [.ref 48] NE I J (RR co dr cc a1 a2) Post := by
  have hpw : 2 ^ K 0 0 ≤ 1024 := Nat.pow_le_pow_right (n := 2) (by decide) hP
  refine Cal_of kn_X0_forget rfl (Nat.le_of_ble_eq_true rfl) ?_
  refine V_aload_n dX0_forget_0 rfl rfl ?_
  refine V_getR dX0_forget_1 fl_X0_9 (by first | assumption | exact ⟨by decide, rfl⟩) (by first | assumption | rfl) ?_
  refine V_iconst (v := 0) dX0_forget_4 (by decide) ?_
  refine V_cS2v (M' := M_J7_fill_53178) (d' := 1) dX0_forget_5 (Or.inl ml_X0_25) kb_J7_fill_53178 (by first | decide | omega) (by simp [Value.category]) ⟨by decide, by decide⟩ ?_
  refine sp_fill (k := 49) (len := 1024) ⟨by decide, rfl⟩ (fun I1 g1 => ⟨rfl, ?_⟩)
  refine V_return dX0_forget_8 rfl rfl (by decide) (by decide) ?_
  exact Kk I1 (fun x y h => by rw [g1, if_neg (fun z => h z.1)]) (fun s hs => Or.inl (by rw [g1, if_pos ⟨rfl, by omega⟩]))
theorem se_startAnew {d : Nat} (hd : 3 ≤ d) (hP : K 0 0 ≤ 10) (Kk : ∀ I', (∀ x y, (x ≠ 0 ∨ y ≠ 8) → (x < 32 ∨ 34 < x) → x ≠ 41 → x ≠ 49 → x ≠ 53 → x ≠ 59 → I' x y = I x y) → CDI I' D0 D1 D2 0 (fun _ => 0) → CCA I' J K → Post none NE I' J (RR co dr cc a1 a2)) : Cal E d M_X10_startAnew [.ref 0] NE I J (RR co dr cc a1 a2) Post := by
  refine Cal_of kn_X10_startAnew rfl (Nat.le_of_ble_eq_true rfl) ?_
  refine V_aload_n dX10_startAnew_0 rfl rfl ?_
  refine V_getR dX10_startAnew_1 fl_X10_33 (by first | assumption | exact ⟨by decide, rfl⟩) (by first | assumption | rfl) ?_
  refine V_cV0v (M' := M_X4_clear) (d' := 2) dX10_startAnew_4 (Or.inl ml_X10_116) kb_X4_clear (by first | assumption | exact ⟨by decide, rfl⟩) (by first | decide | omega) (by simp [Value.category]) ⟨by decide, by decide⟩ ?_
  refine se_diClear (Or.inl rfl) (fun I1 g1 g2 => ⟨rfl, ?_⟩)
  refine V_aload_n dX10_startAnew_7 rfl rfl (V_iconst (v := 0) dX10_startAnew_8 (by decide) ?_)
  refine V_putI dX10_startAnew_9 fl_X10_117 (by first | assumption | exact ⟨by decide, rfl⟩) ?_
  refine V_aload_n dX10_startAnew_12 rfl rfl ?_
  refine V_getR dX10_startAnew_13 fl_X10_43 (by first | assumption | exact ⟨by decide, rfl⟩) (by first | assumption | rfl) ?_
  refine V_iconst (v := 0) dX10_startAnew_16 (by decide) ?_
  refine V_cS2v (M' := M_J7_fill_53178) (d' := 1) dX10_startAnew_17 (Or.inl ml_X10_120) kb_J7_fill_53178 (by first | decide | omega) (by simp [Value.category]) ⟨by decide, by decide⟩ ?_
  refine sp_fill (k := 41) (len := 10) ⟨by decide, rfl⟩ (fun I2 m1 => ⟨rfl, ?_⟩)
  refine V_aload_n dX10_startAnew_20 rfl rfl ?_
  refine V_getR dX10_startAnew_21 fl_X10_57 (by first | assumption | exact ⟨by decide, rfl⟩) (by first | assumption | rfl) ?_
  refine V_cV0v (M' := M_X0_forget) (d' := 2) dX10_startAnew_24 (Or.inl ml_X10_126) kb_X0_forget (by first | assumption | exact ⟨by decide, rfl⟩) (by first | decide | omega) (by simp [Value.category]) ⟨by decide, by decide⟩ ?_
  refine se_abForget (K := K) (by omega) hP (fun I3 n1 n2 => ⟨rfl, ?_⟩)
  refine V_aload_n dX10_startAnew_27 rfl rfl ?_
  refine V_getR dX10_startAnew_28 fl_X10_64 (by first | assumption | exact ⟨by decide, rfl⟩) (by first | assumption | rfl) ?_
  refine V_cV0v (M' := M_X9_forget) (d' := 1) dX10_startAnew_31 (Or.inl ml_X10_129) kb_X9_forget (by first | assumption | exact ⟨by decide, rfl⟩) (by first | decide | omega) (by simp [Value.category]) ⟨by decide, by decide⟩ ?_
  refine se_unForget (K := K) (fun I4 p1 p2 p3 => ⟨rfl, ?_⟩)
  refine V_aload_n dX10_startAnew_34 rfl rfl ?_
  refine V_getR dX10_startAnew_35 fl_X10_71 (by first | assumption | exact ⟨by decide, rfl⟩) (by first | assumption | rfl) ?_
  refine V_cV0v (M' := M_X7_forget) (d' := 1) dX10_startAnew_38 (Or.inl ml_X10_130) kb_X7_forget (by first | assumption | exact ⟨by decide, rfl⟩) (by first | decide | omega) (by simp [Value.category]) ⟨by decide, by decide⟩ ?_
  refine se_siForget (K := K) (fun I5 q1 q2 => ⟨rfl, ?_⟩)
  refine V_return dX10_startAnew_41 rfl rfl (by decide) (by decide) ?_
  have f2 : ∀ x y, x ≠ 41 → I2 x y = up2 I1 0 8 0 x y := fun x y hx => by rw [m1, if_neg (fun z => hx z.1)]
  have f5 : ∀ x y, x ≠ 41 → x ≠ 49 → x ≠ 53 → x ≠ 59 → I5 x y = up2 I1 0 8 0 x y := fun x y h1 h2 h3 h4 => by rw [q1 x y (by omega), p1 x y (by omega), n1 x y h2, f2 x y h1]
  refine Kk I5 (fun x y h1 h2 h3 h4 h5 h6 => ?_) ⟨?_, fun k => absurd k (by decide), fun k => absurd k (by decide), ?_, fun p hp => ?_⟩ ⟨?_, ?_, ?_, q2⟩
  · rw [f5 x y h3 h4 h5 h6, u2n (by omega)]; exact g1 x y h2
  · exact g2.of (fun x y a b => by rw [f5 x y (by omega) (by omega) (by omega) (by omega), u2n (by omega)])
  · rw [f5 _ _ (by omega) (by omega) (by omega) (by omega), u2e]; rfl
  · rw [q1 _ _ (by omega), p1 _ _ (by omega), n1 _ _ (by omega), m1, if_pos ⟨rfl, hp⟩]
  · exact n2.of (fun b => by rw [q1 _ _ (by omega), p1 _ _ (by omega)])
  · exact p2.of (q1 _ _ (by omega)) (fun _ => rfl)
  · exact p3.of (q1 _ _ (by omega)) (q1 _ _ (by omega))
end
