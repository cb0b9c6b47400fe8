/-! p1: the class on a new object -/
def FL_J7 : List (Nat × Nat × Nat) := []
theorem fok_J7 : ∀ q ∈ FL_J7, FOK RJ7 q := fun _ h => absurd h List.not_mem_nil
def CL_J7 : List (Nat × Nat) := []
theorem clok_J7 : ∀ q ∈ CL_J7, q.2 < 10 ∧ Cond.classLink RJ7 q.1 (clr q.2).1 ∈ OM := fun _ h => absurd h List.not_mem_nil
def JL_J7 : List (Nat × Int64) := []
theorem jok_J7 : ∀ q ∈ JL_J7, Cond.constantLong RJ7 q.1 q.2 ∈ OM := fun _ h => absurd h List.not_mem_nil
def sp_J7_fill_d0a16 : Spc := fun as N lg it rf K => match as with | [.ref j, .long v] => (Ob N j 12 ∧ j < 489) ∧ ∀ lg', Kp lg lg' → K none lg' it rf | _ => False
def T_J7_fill_d0a16 : Tab := (FL_J7, CL_J7, JL_J7, [], 99, none)
def rm_J7_fill_d0a16 : Room := { frames := 0, cells := 0, slots := 0, locals := 0 }
set_option maxRecDepth 100000 in
theorem bd_J7_fill_d0a16 (as : List Value) (N : Nat) (lg : LGt) (it : ITt) (rf : RFt) (Q : Post) (h : sp_J7_fill_d0a16 as N lg it rf Q) : Bd T_J7_fill_d0a16 cJ7_fill_d0a16 5 0 as N lg it rf Q := by
  unfold sp_J7_fill_d0a16 at h
  split at h
  · rename_i j v
    refine ⟨Nat.le_of_ble_eq_true rfl, fun P hs hw => ?_⟩
    obtain ⟨⟨hj, hlt⟩, hk⟩ := h
    have hle := lay_le j
    have lp : ∀ (k i : Nat) (lg1 : LGt), i + k = (LAY j).2 → Kp lg lg1 → P 6 [.ref j, .long v, uu, .int (nI i), .int (nI (LAY j).2)] [] N lg1 it rf := by
      intro k
      induction k with
      | zero =>
        intro i lg1 hi hK
        have hi : i = (LAY j).2 := by omega
        subst hi
        refine hs dJ7_fill_d0a16_6 (hs dJ7_fill_d0a16_7 (hs dJ7_fill_d0a16_9 (And.intro (fun c9 => ?_) (fun c9 => absurd (nI_le (Nat.le_refl _) (by omega)) c9))))
        refine hs dJ7_fill_d0a16_22 (And.intro (rfl) (And.intro rfl ?_))
        exact hk _ hK
      | succ k ih =>
        intro i lg1 hi hK
        refine hs dJ7_fill_d0a16_6 (hs dJ7_fill_d0a16_7 (hs dJ7_fill_d0a16_9 (And.intro (fun c9 => absurd c9 (nI_ge (by omega) (by omega))) (fun c9 => (hs dJ7_fill_d0a16_12 (hs dJ7_fill_d0a16_13 (hs dJ7_fill_d0a16_14 (hs dJ7_fill_d0a16_15 (And.intro (hj) (And.intro (vin rfl (nI_in (by omega) (by omega))) (hs dJ7_fill_d0a16_16 (hs dJ7_fill_d0a16_19 ?_))))))))))))
        have hs := ih (i + 1) _ (by omega) (Kp_u (k := (nI i).toNatClampNeg) (v := v) hK hlt)
        rw [nI_succ] at hs
        exact hs
    refine hs dJ7_fill_d0a16_0 (hs dJ7_fill_d0a16_1 (hs dJ7_fill_d0a16_2 (hs dJ7_fill_d0a16_3 (And.intro (⟨hj.1, by rw [hj.2]; decide, by rw [hj.2]; decide⟩) (hs dJ7_fill_d0a16_4 ?_)))))
    exact lp (LAY j).2 0 lg (by omega) Kp_0
  · exact h.elim
theorem ct_J7_fill_d0a16 {E : Ev} {l : Launch} : CT E l yJ7_fill_d0a16 (wsY yJ7_fill_d0a16 cJ7_fill_d0a16 5 none) rm_J7_fill_d0a16 0 sp_J7_fill_d0a16 := ct_of (T := T_J7_fill_d0a16) (own := RJ7) (by decide) rfl (fun ci h10 hc => by have h2 : (99 : Nat) = ci := Nat.eq_of_beq_eq_true hc; omega) ⟨rfl, rfl⟩ ⟨fok_J7, clok_J7, jok_J7, fun _ h => absurd h List.not_mem_nil⟩ bd_J7_fill_d0a16
theorem ob_0 : Ob NT 0 8 := ⟨by decide, by decide +kernel⟩
theorem r_0_0 : RF0 0 0 = some 1 := by decide +kernel
theorem ob_1 : Ob NT 1 4 := ⟨by decide, by decide +kernel⟩
theorem r_1_0 : RF0 1 0 = some 2 := by decide +kernel
theorem ob_2 : Ob NT 2 3 := ⟨by decide, by decide +kernel⟩
theorem r_2_5 : RF0 2 5 = some 18 := by decide +kernel
theorem ln_18 : (LAY 18).2 = 2 := by decide +kernel
theorem ob_18 : Ob NT 18 11 := ⟨by decide, by decide +kernel⟩
theorem vit_2_0 : IT0 2 0 = 0 := by decide +kernel
theorem r_2_2 : RF0 2 2 = some 4 := by decide +kernel
theorem r_4_0 : RF0 4 0 = some 6 := by decide +kernel
theorem oa_4 : 4 < NT ∧ 13 ≤ (LAY 4).1 ∧ (LAY 4).1 ≤ 15 := by decide +kernel
theorem ln_4 : (LAY 4).2 = 6 := by decide +kernel
theorem ob_6 : Ob NT 6 1 := ⟨by decide, by decide +kernel⟩
theorem r_2_1 : RF0 2 1 = some 3 := by decide +kernel
theorem ln_3 : (LAY 3).2 = 6 := by decide +kernel
theorem ob_3 : Ob NT 3 11 := ⟨by decide, by decide +kernel⟩
theorem r_2_3 : RF0 2 3 = some 5 := by decide +kernel
theorem r_5_0 : RF0 5 0 = some 7 := by decide +kernel
theorem oa_5 : 5 < NT ∧ 13 ≤ (LAY 5).1 ∧ (LAY 5).1 ≤ 15 := by decide +kernel
theorem ln_5 : (LAY 5).2 = 6 := by decide +kernel
theorem ob_7 : Ob NT 7 1 := ⟨by decide, by decide +kernel⟩
theorem vit_2_4 : IT0 2 4 = 4 := by decide +kernel
theorem vit_18_0 : IT0 18 0 = 4 := by decide +kernel
theorem vit_18_1 : IT0 18 1 = 4 := by decide +kernel
theorem r_0_5 : RF0 0 5 = some 467 := by decide +kernel
theorem ob_467 : Ob NT 467 7 := ⟨by decide, by decide +kernel⟩
theorem vit_467_1 : IT0 467 1 = 0 := by decide +kernel
theorem r_467_0 : RF0 467 0 = some 468 := by decide +kernel
theorem ln_468 : (LAY 468).2 = 100 := by decide +kernel
theorem ob_468 : Ob NT 468 10 := ⟨by decide, by decide +kernel⟩
theorem ob_19 : Ob NT 19 2 := ⟨by decide, by decide +kernel⟩
theorem r_19_0 : RF0 19 0 = some 20 := by decide +kernel
theorem ol_20 : 20 < NT ∧ 10 ≤ (LAY 20).1 ∧ (LAY 20).1 ≤ 15 := by decide +kernel
theorem ln_20 : (LAY 20).2 = 5 := by decide +kernel
theorem ob_20 : Ob NT 20 11 := ⟨by decide, by decide +kernel⟩
theorem r_19_1 : RF0 19 1 = some 21 := by decide +kernel
theorem ln_21 : (LAY 21).2 = 5 := by decide +kernel
theorem ob_21 : Ob NT 21 11 := ⟨by decide, by decide +kernel⟩
theorem ob_22 : Ob NT 22 2 := ⟨by decide, by decide +kernel⟩
theorem r_22_0 : RF0 22 0 = some 23 := by decide +kernel
theorem ol_23 : 23 < NT ∧ 10 ≤ (LAY 23).1 ∧ (LAY 23).1 ≤ 15 := by decide +kernel
theorem ln_23 : (LAY 23).2 = 8 := by decide +kernel
theorem ob_23 : Ob NT 23 11 := ⟨by decide, by decide +kernel⟩
theorem r_22_1 : RF0 22 1 = some 24 := by decide +kernel
theorem ln_24 : (LAY 24).2 = 8 := by decide +kernel
theorem ob_24 : Ob NT 24 11 := ⟨by decide, by decide +kernel⟩
theorem ob_25 : Ob NT 25 2 := ⟨by decide, by decide +kernel⟩
theorem r_25_0 : RF0 25 0 = some 26 := by decide +kernel
theorem ol_26 : 26 < NT ∧ 10 ≤ (LAY 26).1 ∧ (LAY 26).1 ≤ 15 := by decide +kernel
theorem ln_26 : (LAY 26).2 = 8 := by decide +kernel
theorem ob_26 : Ob NT 26 11 := ⟨by decide, by decide +kernel⟩
theorem r_25_1 : RF0 25 1 = some 27 := by decide +kernel
theorem ln_27 : (LAY 27).2 = 8 := by decide +kernel
theorem ob_27 : Ob NT 27 11 := ⟨by decide, by decide +kernel⟩
theorem r_1_1 : RF0 1 1 = some 19 := by decide +kernel
theorem vit_19_2 : IT0 19 2 = 0 := by decide +kernel
theorem r_1_3 : RF0 1 3 = some 25 := by decide +kernel
theorem vit_25_2 : IT0 25 2 = 0 := by decide +kernel
theorem vit_0_2 : IT0 0 2 = 0 := by decide +kernel
theorem r_1_2 : RF0 1 2 = some 22 := by decide +kernel
theorem vit_22_2 : IT0 22 2 = 0 := by decide +kernel
theorem oa_473 : 473 < NT ∧ 13 ≤ (LAY 473).1 ∧ (LAY 473).1 ≤ 15 := by decide +kernel
theorem r_0_6 : RF0 0 6 = some 473 := by decide +kernel
def sp_X8_isMass : Spc := fun as N lg it rf K => match as with | [.int a] => K (some (.int (b2 ((1 ≤ a.toInt ∧ a.toInt ≤ 9))))) lg it rf | _ => False
def T_X8_isMass : Tab := (FL_X8, CL_X8, JL_X8, [], 99, (some .boolean))
def rm_X8_isMass : Room := { frames := 0, cells := 0, slots := 0, locals := 0 }
set_option maxRecDepth 100000 in
theorem bd_X8_isMass (as : List Value) (N : Nat) (lg : LGt) (it : ITt) (rf : RFt) (Q : Post) (h : sp_X8_isMass as N lg it rf Q) : Bd T_X8_isMass cX8_isMass 1 0 as N lg it rf Q := by
  unfold sp_X8_isMass at h
  split at h
  · rename_i a
    refine ⟨Nat.le_of_ble_eq_true rfl, fun P hs hw => ?_⟩
    have hk := h
    refine hs dX8_isMass_0 (hs dX8_isMass_1 (hs dX8_isMass_2 (And.intro (fun c2 => ?_) (fun c2 => ?_))))
    · try dsimp only at c2
      try simp only [kb_9, ki_0, ki_1] at c2
      refine hs dX8_isMass_15 (hs dX8_isMass_16 (And.intro (rfl) (And.intro rfl (And.intro (rfl) ?_))))
      try simp only [kb_9, ki_0, ki_1, b2_0, b2_1] at c2
      try simp only [Int32.lt_iff_toInt_lt, Int32.le_iff_toInt_le, ← Int32.toInt_inj, ti_0, ti_1, ti_9] at c2
      have e : b2 ((1 ≤ a.toInt ∧ a.toInt ≤ 9)) = 0 := b2_n (by omega)
      rw [e] at hk
      exact hk
    · try dsimp only at c2
      try simp only [kb_9, ki_0, ki_1] at c2
      refine hs dX8_isMass_5 (hs dX8_isMass_6 (hs dX8_isMass_8 (And.intro (fun c8 => ?_) (fun c8 => ?_))))
      · try dsimp only at c8
        try simp only [kb_9, ki_0, ki_1] at c8
        refine hs dX8_isMass_15 (hs dX8_isMass_16 (And.intro (rfl) (And.intro rfl (And.intro (rfl) ?_))))
        try simp only [kb_9, ki_0, ki_1, b2_0, b2_1] at c2 c8
        try simp only [Int32.lt_iff_toInt_lt, Int32.le_iff_toInt_le, ← Int32.toInt_inj, ti_0, ti_1, ti_9] at c2 c8
        have e : b2 ((1 ≤ a.toInt ∧ a.toInt ≤ 9)) = 0 := b2_n (by omega)
        rw [e] at hk
        exact hk
      · try dsimp only at c8
        try simp only [kb_9, ki_0, ki_1] at c8
        refine hs dX8_isMass_11 (hs dX8_isMass_12 (hs dX8_isMass_16 (And.intro (rfl) (And.intro rfl (And.intro (rfl) ?_)))))
        try simp only [kb_9, ki_0, ki_1, b2_0, b2_1] at c2 c8
        try simp only [Int32.lt_iff_toInt_lt, Int32.le_iff_toInt_le, ← Int32.toInt_inj, ti_0, ti_1, ti_9] at c2 c8
        have e : b2 ((1 ≤ a.toInt ∧ a.toInt ≤ 9)) = 1 := b2_p (by omega)
        rw [e] at hk
        exact hk
  · exact h.elim
theorem ct_X8_isMass {E : Ev} {l : Launch} : CT E l yX8_isMass (wsY yX8_isMass cX8_isMass 1 (some .boolean)) rm_X8_isMass 0 sp_X8_isMass := ct_of (T := T_X8_isMass) (own := RX8) (by decide) rfl (fun ci h10 hc => by have h2 : (99 : Nat) = ci := Nat.eq_of_beq_eq_true hc; omega) ⟨rfl, rfl⟩ ⟨fok_X8, clok_X8, jok_X8, fun _ h => absurd h List.not_mem_nil⟩ bd_X8_isMass
def sp_X8_isSpeed : Spc := fun as N lg it rf K => match as with | [.int a] => K (some (.int (b2 ((-9 ≤ a.toInt ∧ a.toInt ≤ 9))))) lg it rf | _ => False
def T_X8_isSpeed : Tab := (FL_X8, CL_X8, JL_X8, [], 99, (some .boolean))
def rm_X8_isSpeed : Room := { frames := 0, cells := 0, slots := 0, locals := 0 }
set_option maxRecDepth 100000 in
theorem bd_X8_isSpeed (as : List Value) (N : Nat) (lg : LGt) (it : ITt) (rf : RFt) (Q : Post) (h : sp_X8_isSpeed as N lg it rf Q) : Bd T_X8_isSpeed cX8_isSpeed 1 0 as N lg it rf Q := by
  unfold sp_X8_isSpeed at h
  split at h
  · rename_i a
    refine ⟨Nat.le_of_ble_eq_true rfl, fun P hs hw => ?_⟩
    have hk := h
    refine hs dX8_isSpeed_0 (hs dX8_isSpeed_1 (hs dX8_isSpeed_3 (And.intro (fun c3 => ?_) (fun c3 => ?_))))
    · try dsimp only at c3
      try simp only [kb_m9, kb_9, ki_0, ki_1] at c3
      refine hs dX8_isSpeed_16 (hs dX8_isSpeed_17 (And.intro (rfl) (And.intro rfl (And.intro (rfl) ?_))))
      try simp only [kb_m9, kb_9, ki_0, ki_1, b2_0, b2_1] at c3
      try simp only [Int32.lt_iff_toInt_lt, Int32.le_iff_toInt_le, ← Int32.toInt_inj, ti_m9, ti_0, ti_1, ti_9] at c3
      have e : b2 ((-9 ≤ a.toInt ∧ a.toInt ≤ 9)) = 0 := b2_n (by omega)
      rw [e] at hk
      exact hk
    · try dsimp only at c3
      try simp only [kb_m9, kb_9, ki_0, ki_1] at c3
      refine hs dX8_isSpeed_6 (hs dX8_isSpeed_7 (hs dX8_isSpeed_9 (And.intro (fun c9 => ?_) (fun c9 => ?_))))
      · try dsimp only at c9
        try simp only [kb_m9, kb_9, ki_0, ki_1] at c9
        refine hs dX8_isSpeed_16 (hs dX8_isSpeed_17 (And.intro (rfl) (And.intro rfl (And.intro (rfl) ?_))))
        try simp only [kb_m9, kb_9, ki_0, ki_1, b2_0, b2_1] at c3 c9
        try simp only [Int32.lt_iff_toInt_lt, Int32.le_iff_toInt_le, ← Int32.toInt_inj, ti_m9, ti_0, ti_1, ti_9] at c3 c9
        have e : b2 ((-9 ≤ a.toInt ∧ a.toInt ≤ 9)) = 0 := b2_n (by omega)
        rw [e] at hk
        exact hk
      · try dsimp only at c9
        try simp only [kb_m9, kb_9, ki_0, ki_1] at c9
        refine hs dX8_isSpeed_12 (hs dX8_isSpeed_13 (hs dX8_isSpeed_17 (And.intro (rfl) (And.intro rfl (And.intro (rfl) ?_)))))
        try simp only [kb_m9, kb_9, ki_0, ki_1, b2_0, b2_1] at c3 c9
        try simp only [Int32.lt_iff_toInt_lt, Int32.le_iff_toInt_le, ← Int32.toInt_inj, ti_m9, ti_0, ti_1, ti_9] at c3 c9
        have e : b2 ((-9 ≤ a.toInt ∧ a.toInt ≤ 9)) = 1 := b2_p (by omega)
        rw [e] at hk
        exact hk
  · exact h.elim
theorem ct_X8_isSpeed {E : Ev} {l : Launch} : CT E l yX8_isSpeed (wsY yX8_isSpeed cX8_isSpeed 1 (some .boolean)) rm_X8_isSpeed 0 sp_X8_isSpeed := ct_of (T := T_X8_isSpeed) (own := RX8) (by decide) rfl (fun ci h10 hc => by have h2 : (99 : Nat) = ci := Nat.eq_of_beq_eq_true hc; omega) ⟨rfl, rfl⟩ ⟨fok_X8, clok_X8, jok_X8, fun _ h => absurd h List.not_mem_nil⟩ bd_X8_isSpeed
def sp_X8_isQuarters : Spc := fun as N lg it rf K => match as with | [.int a] => K (some (.int (b2 ((0 ≤ a.toInt ∧ a.toInt ≤ 4))))) lg it rf | _ => False
def T_X8_isQuarters : Tab := (FL_X8, CL_X8, JL_X8, [], 99, (some .boolean))
def rm_X8_isQuarters : Room := { frames := 0, cells := 0, slots := 0, locals := 0 }
set_option maxRecDepth 100000 in
theorem bd_X8_isQuarters (as : List Value) (N : Nat) (lg : LGt) (it : ITt) (rf : RFt) (Q : Post) (h : sp_X8_isQuarters as N lg it rf Q) : Bd T_X8_isQuarters cX8_isQuarters 1 0 as N lg it rf Q := by
  unfold sp_X8_isQuarters at h
  split at h
  · rename_i a
    refine ⟨Nat.le_of_ble_eq_true rfl, fun P hs hw => ?_⟩
    have hk := h
    refine hs dX8_isQuarters_0 (hs dX8_isQuarters_1 (And.intro (fun c1 => ?_) (fun c1 => ?_)))
    · try dsimp only at c1
      try simp only [ki_0, ki_1, ki_4] at c1
      refine hs dX8_isQuarters_13 (hs dX8_isQuarters_14 (And.intro (rfl) (And.intro rfl (And.intro (rfl) ?_))))
      try simp only [ki_0, ki_1, ki_4, b2_0, b2_1] at c1
      try simp only [Int32.lt_iff_toInt_lt, Int32.le_iff_toInt_le, ← Int32.toInt_inj, ti_0, ti_1, ti_4] at c1
      have e : b2 ((0 ≤ a.toInt ∧ a.toInt ≤ 4)) = 0 := b2_n (by omega)
      rw [e] at hk
      exact hk
    · try dsimp only at c1
      try simp only [ki_0, ki_1, ki_4] at c1
      refine hs dX8_isQuarters_4 (hs dX8_isQuarters_5 (hs dX8_isQuarters_6 (And.intro (fun c6 => ?_) (fun c6 => ?_))))
      · try dsimp only at c6
        try simp only [ki_0, ki_1, ki_4] at c6
        refine hs dX8_isQuarters_13 (hs dX8_isQuarters_14 (And.intro (rfl) (And.intro rfl (And.intro (rfl) ?_))))
        try simp only [ki_0, ki_1, ki_4, b2_0, b2_1] at c1 c6
        try simp only [Int32.lt_iff_toInt_lt, Int32.le_iff_toInt_le, ← Int32.toInt_inj, ti_0, ti_1, ti_4] at c1 c6
        have e : b2 ((0 ≤ a.toInt ∧ a.toInt ≤ 4)) = 0 := b2_n (by omega)
        rw [e] at hk
        exact hk
      · try dsimp only at c6
        try simp only [ki_0, ki_1, ki_4] at c6
        refine hs dX8_isQuarters_9 (hs dX8_isQuarters_10 (hs dX8_isQuarters_14 (And.intro (rfl) (And.intro rfl (And.intro (rfl) ?_)))))
        try simp only [ki_0, ki_1, ki_4, b2_0, b2_1] at c1 c6
        try simp only [Int32.lt_iff_toInt_lt, Int32.le_iff_toInt_le, ← Int32.toInt_inj, ti_0, ti_1, ti_4] at c1 c6
        have e : b2 ((0 ≤ a.toInt ∧ a.toInt ≤ 4)) = 1 := b2_p (by omega)
        rw [e] at hk
        exact hk
  · exact h.elim
theorem ct_X8_isQuarters {E : Ev} {l : Launch} : CT E l yX8_isQuarters (wsY yX8_isQuarters cX8_isQuarters 1 (some .boolean)) rm_X8_isQuarters 0 sp_X8_isQuarters := ct_of (T := T_X8_isQuarters) (own := RX8) (by decide) rfl (fun ci h10 hc => by have h2 : (99 : Nat) = ci := Nat.eq_of_beq_eq_true hc; omega) ⟨rfl, rfl⟩ ⟨fok_X8, clok_X8, jok_X8, fun _ h => absurd h List.not_mem_nil⟩ bd_X8_isQuarters
def sp_X8_isPart : Spc := fun as N lg it rf K => match as with | [.int a] => K (some (.int (b2 ((0 ≤ a.toInt ∧ a.toInt ≤ 1))))) lg it rf | _ => False
def T_X8_isPart : Tab := (FL_X8, CL_X8, JL_X8, [], 99, (some .boolean))
def rm_X8_isPart : Room := { frames := 0, cells := 0, slots := 0, locals := 0 }
set_option maxRecDepth 100000 in
theorem bd_X8_isPart (as : List Value) (N : Nat) (lg : LGt) (it : ITt) (rf : RFt) (Q : Post) (h : sp_X8_isPart as N lg it rf Q) : Bd T_X8_isPart cX8_isPart 1 0 as N lg it rf Q := by
  unfold sp_X8_isPart at h
  split at h
  · rename_i a
    refine ⟨Nat.le_of_ble_eq_true rfl, fun P hs hw => ?_⟩
    have hk := h
    refine hs dX8_isPart_0 (hs dX8_isPart_1 (And.intro (fun c1 => ?_) (fun c1 => ?_)))
    · try dsimp only at c1
      try simp only [ki_0, ki_1] at c1
      refine hs dX8_isPart_9 (hs dX8_isPart_10 (hs dX8_isPart_14 (And.intro (rfl) (And.intro rfl (And.intro (rfl) ?_)))))
      try simp only [ki_0, ki_1, b2_0, b2_1] at c1
      try simp only [Int32.lt_iff_toInt_lt, Int32.le_iff_toInt_le, ← Int32.toInt_inj, ti_0, ti_1] at c1
      have e : b2 ((0 ≤ a.toInt ∧ a.toInt ≤ 1)) = 1 := b2_p (by omega)
      rw [e] at hk
      exact hk
    · try dsimp only at c1
      try simp only [ki_0, ki_1] at c1
      refine hs dX8_isPart_4 (hs dX8_isPart_5 (hs dX8_isPart_6 (And.intro (fun c6 => ?_) (fun c6 => ?_))))
      · try dsimp only at c6
        try simp only [ki_0, ki_1] at c6
        refine hs dX8_isPart_13 (hs dX8_isPart_14 (And.intro (rfl) (And.intro rfl (And.intro (rfl) ?_))))
        try simp only [ki_0, ki_1, b2_0, b2_1] at c1 c6
        try simp only [Int32.lt_iff_toInt_lt, Int32.le_iff_toInt_le, ← Int32.toInt_inj, ti_0, ti_1] at c1 c6
        have e : b2 ((0 ≤ a.toInt ∧ a.toInt ≤ 1)) = 0 := b2_n (by omega)
        rw [e] at hk
        exact hk
      · try dsimp only at c6
        try simp only [ki_0, ki_1] at c6
        refine hs dX8_isPart_9 (hs dX8_isPart_10 (hs dX8_isPart_14 (And.intro (rfl) (And.intro rfl (And.intro (rfl) ?_)))))
        try simp only [ki_0, ki_1, b2_0, b2_1] at c1 c6
        try simp only [Int32.lt_iff_toInt_lt, Int32.le_iff_toInt_le, ← Int32.toInt_inj, ti_0, ti_1] at c1 c6
        have e : b2 ((0 ≤ a.toInt ∧ a.toInt ≤ 1)) = 1 := b2_p (by omega)
        rw [e] at hk
        exact hk
  · exact h.elim
theorem ct_X8_isPart {E : Ev} {l : Launch} : CT E l yX8_isPart (wsY yX8_isPart cX8_isPart 1 (some .boolean)) rm_X8_isPart 0 sp_X8_isPart := ct_of (T := T_X8_isPart) (own := RX8) (by decide) rfl (fun ci h10 hc => by have h2 : (99 : Nat) = ci := Nat.eq_of_beq_eq_true hc; omega) ⟨rfl, rfl⟩ ⟨fok_X8, clok_X8, jok_X8, fun _ h => absurd h List.not_mem_nil⟩ bd_X8_isPart
def sp_X8_isTape : Spc := fun as N lg it rf K => match as with | [.int a] => K (some (.int (b2 ((0 ≤ a.toInt ∧ a.toInt ≤ 5))))) lg it rf | _ => False
def T_X8_isTape : Tab := (FL_X8, CL_X8, JL_X8, [], 99, (some .boolean))
def rm_X8_isTape : Room := { frames := 0, cells := 0, slots := 0, locals := 0 }
set_option maxRecDepth 100000 in
theorem bd_X8_isTape (as : List Value) (N : Nat) (lg : LGt) (it : ITt) (rf : RFt) (Q : Post) (h : sp_X8_isTape as N lg it rf Q) : Bd T_X8_isTape cX8_isTape 1 0 as N lg it rf Q := by
  unfold sp_X8_isTape at h
  split at h
  · rename_i a
    refine ⟨Nat.le_of_ble_eq_true rfl, fun P hs hw => ?_⟩
    have hk := h
    refine hs dX8_isTape_0 (hs dX8_isTape_1 (And.intro (fun c1 => ?_) (fun c1 => ?_)))
    · try dsimp only at c1
      try simp only [kb_6, ki_0, ki_1] at c1
      refine hs dX8_isTape_14 (hs dX8_isTape_15 (And.intro (rfl) (And.intro rfl (And.intro (rfl) ?_))))
      try simp only [kb_6, ki_0, ki_1, b2_0, b2_1] at c1
      try simp only [Int32.lt_iff_toInt_lt, Int32.le_iff_toInt_le, ← Int32.toInt_inj, ti_0, ti_1, ti_6] at c1
      have e : b2 ((0 ≤ a.toInt ∧ a.toInt ≤ 5)) = 0 := b2_n (by omega)
      rw [e] at hk
      exact hk
    · try dsimp only at c1
      try simp only [kb_6, ki_0, ki_1] at c1
      refine hs dX8_isTape_4 (hs dX8_isTape_5 (hs dX8_isTape_7 (And.intro (fun c7 => ?_) (fun c7 => ?_))))
      · try dsimp only at c7
        try simp only [kb_6, ki_0, ki_1] at c7
        refine hs dX8_isTape_14 (hs dX8_isTape_15 (And.intro (rfl) (And.intro rfl (And.intro (rfl) ?_))))
        try simp only [kb_6, ki_0, ki_1, b2_0, b2_1] at c1 c7
        try simp only [Int32.lt_iff_toInt_lt, Int32.le_iff_toInt_le, ← Int32.toInt_inj, ti_0, ti_1, ti_6] at c1 c7
        have e : b2 ((0 ≤ a.toInt ∧ a.toInt ≤ 5)) = 0 := b2_n (by omega)
        rw [e] at hk
        exact hk
      · try dsimp only at c7
        try simp only [kb_6, ki_0, ki_1] at c7
        refine hs dX8_isTape_10 (hs dX8_isTape_11 (hs dX8_isTape_15 (And.intro (rfl) (And.intro rfl (And.intro (rfl) ?_)))))
        try simp only [kb_6, ki_0, ki_1, b2_0, b2_1] at c1 c7
        try simp only [Int32.lt_iff_toInt_lt, Int32.le_iff_toInt_le, ← Int32.toInt_inj, ti_0, ti_1, ti_6] at c1 c7
        have e : b2 ((0 ≤ a.toInt ∧ a.toInt ≤ 5)) = 1 := b2_p (by omega)
        rw [e] at hk
        exact hk
  · exact h.elim
theorem ct_X8_isTape {E : Ev} {l : Launch} : CT E l yX8_isTape (wsY yX8_isTape cX8_isTape 1 (some .boolean)) rm_X8_isTape 0 sp_X8_isTape := ct_of (T := T_X8_isTape) (own := RX8) (by decide) rfl (fun ci h10 hc => by have h2 : (99 : Nat) = ci := Nat.eq_of_beq_eq_true hc; omega) ⟨rfl, rfl⟩ ⟨fok_X8, clok_X8, jok_X8, fun _ h => absurd h List.not_mem_nil⟩ bd_X8_isTape
def sp_X8_isWhere : Spc := fun as N lg it rf K => match as with | [.int a] => K (some (.int (b2 ((0 ≤ a.toInt ∧ a.toInt ≤ 5) ∨ a.toInt = 9)))) lg it rf | _ => False
def T_X8_isWhere : Tab := (FL_X8, CL_X8, JL_X8, [], 99, (some .boolean))
def rm_X8_isWhere : Room := { frames := 0, cells := 0, slots := 0, locals := 0 }
set_option maxRecDepth 100000 in
theorem bd_X8_isWhere (as : List Value) (N : Nat) (lg : LGt) (it : ITt) (rf : RFt) (Q : Post) (h : sp_X8_isWhere as N lg it rf Q) : Bd T_X8_isWhere cX8_isWhere 1 0 as N lg it rf Q := by
  unfold sp_X8_isWhere at h
  split at h
  · rename_i a
    refine ⟨Nat.le_of_ble_eq_true rfl, fun P hs hw => ?_⟩
    have hk := h
    refine hs dX8_isWhere_0 (hs dX8_isWhere_1 (And.intro (fun c1 => ?_) (fun c1 => ?_)))
    · try dsimp only at c1
      try simp only [kb_6, kb_9, ki_0, ki_1] at c1
      refine hs dX8_isWhere_10 (hs dX8_isWhere_11 (hs dX8_isWhere_13 (And.intro (fun c13 => ?_) (fun c13 => ?_))))
      · try dsimp only at c13
        try simp only [kb_6, kb_9, ki_0, ki_1] at c13
        refine hs dX8_isWhere_20 (hs dX8_isWhere_21 (And.intro (rfl) (And.intro rfl (And.intro (rfl) ?_))))
        try simp only [kb_6, kb_9, ki_0, ki_1, b2_0, b2_1] at c1 c13
        try simp only [Int32.lt_iff_toInt_lt, Int32.le_iff_toInt_le, ← Int32.toInt_inj, ti_0, ti_1, ti_6, ti_9] at c1 c13
        have e : b2 ((0 ≤ a.toInt ∧ a.toInt ≤ 5) ∨ a.toInt = 9) = 0 := b2_n (by omega)
        rw [e] at hk
        exact hk
      · try dsimp only at c13
        try simp only [kb_6, kb_9, ki_0, ki_1] at c13
        refine hs dX8_isWhere_16 (hs dX8_isWhere_17 (hs dX8_isWhere_21 (And.intro (rfl) (And.intro rfl (And.intro (rfl) ?_)))))
        try simp only [kb_6, kb_9, ki_0, ki_1, b2_0, b2_1] at c1 c13
        try simp only [Int32.lt_iff_toInt_lt, Int32.le_iff_toInt_le, ← Int32.toInt_inj, ti_0, ti_1, ti_6, ti_9] at c1 c13
        have e : b2 ((0 ≤ a.toInt ∧ a.toInt ≤ 5) ∨ a.toInt = 9) = 1 := b2_p (by omega)
        rw [e] at hk
        exact hk
    · try dsimp only at c1
      try simp only [kb_6, kb_9, ki_0, ki_1] at c1
      refine hs dX8_isWhere_4 (hs dX8_isWhere_5 (hs dX8_isWhere_7 (And.intro (fun c7 => ?_) (fun c7 => ?_))))
      · try dsimp only at c7
        try simp only [kb_6, kb_9, ki_0, ki_1] at c7
        refine hs dX8_isWhere_16 (hs dX8_isWhere_17 (hs dX8_isWhere_21 (And.intro (rfl) (And.intro rfl (And.intro (rfl) ?_)))))
        try simp only [kb_6, kb_9, ki_0, ki_1, b2_0, b2_1] at c1 c7
        try simp only [Int32.lt_iff_toInt_lt, Int32.le_iff_toInt_le, ← Int32.toInt_inj, ti_0, ti_1, ti_6, ti_9] at c1 c7
        have e : b2 ((0 ≤ a.toInt ∧ a.toInt ≤ 5) ∨ a.toInt = 9) = 1 := b2_p (by omega)
        rw [e] at hk
        exact hk
      · try dsimp only at c7
        try simp only [kb_6, kb_9, ki_0, ki_1] at c7
        refine hs dX8_isWhere_10 (hs dX8_isWhere_11 (hs dX8_isWhere_13 (And.intro (fun c13 => ?_) (fun c13 => ?_))))
        · try dsimp only at c13
          try simp only [kb_6, kb_9, ki_0, ki_1] at c13
          refine hs dX8_isWhere_20 (hs dX8_isWhere_21 (And.intro (rfl) (And.intro rfl (And.intro (rfl) ?_))))
          try simp only [kb_6, kb_9, ki_0, ki_1, b2_0, b2_1] at c1 c7 c13
          try simp only [Int32.lt_iff_toInt_lt, Int32.le_iff_toInt_le, ← Int32.toInt_inj, ti_0, ti_1, ti_6, ti_9] at c1 c7 c13
          have e : b2 ((0 ≤ a.toInt ∧ a.toInt ≤ 5) ∨ a.toInt = 9) = 0 := b2_n (by omega)
          rw [e] at hk
          exact hk
        · try dsimp only at c13
          try simp only [kb_6, kb_9, ki_0, ki_1] at c13
          refine hs dX8_isWhere_16 (hs dX8_isWhere_17 (hs dX8_isWhere_21 (And.intro (rfl) (And.intro rfl (And.intro (rfl) ?_)))))
          try simp only [kb_6, kb_9, ki_0, ki_1, b2_0, b2_1] at c1 c7 c13
          try simp only [Int32.lt_iff_toInt_lt, Int32.le_iff_toInt_le, ← Int32.toInt_inj, ti_0, ti_1, ti_6, ti_9] at c1 c7 c13
          have e : b2 ((0 ≤ a.toInt ∧ a.toInt ≤ 5) ∨ a.toInt = 9) = 1 := b2_p (by omega)
          rw [e] at hk
          exact hk
  · exact h.elim
theorem ct_X8_isWhere {E : Ev} {l : Launch} : CT E l yX8_isWhere (wsY yX8_isWhere cX8_isWhere 1 (some .boolean)) rm_X8_isWhere 0 sp_X8_isWhere := ct_of (T := T_X8_isWhere) (own := RX8) (by decide) rfl (fun ci h10 hc => by have h2 : (99 : Nat) = ci := Nat.eq_of_beq_eq_true hc; omega) ⟨rfl, rfl⟩ ⟨fok_X8, clok_X8, jok_X8, fun _ h => absurd h List.not_mem_nil⟩ bd_X8_isWhere
def sp_X8_isBumper : Spc := fun as N lg it rf K => match as with | [.ref 0, .int a] => (N = NT ∧ rf = RF0 ∧ it 2 0 = 0) ∧ K (some (.int 0)) lg it rf | _ => False
def T_X8_isBumper : Tab := (FL_X8, CL_X8, JL_X8, [], 99, (some .boolean))
def rm_X8_isBumper : Room := { frames := 0, cells := 0, slots := 0, locals := 0 }
set_option maxRecDepth 100000 in
theorem bd_X8_isBumper (as : List Value) (N : Nat) (lg : LGt) (it : ITt) (rf : RFt) (Q : Post) (h : sp_X8_isBumper as N lg it rf Q) : Bd T_X8_isBumper cX8_isBumper 2 0 as N lg it rf Q := by
  unfold sp_X8_isBumper at h
  split at h
  · rename_i a
    refine ⟨Nat.le_of_ble_eq_true rfl, fun P hs hw => ?_⟩
    obtain ⟨⟨rfl, rfl, hb⟩, hk⟩ := h
    refine hs dX8_isBumper_0 (hs dX8_isBumper_1 (And.intro (fun c1 => ?_) (fun c1 => ?_)))
    · try dsimp only at c1
      try simp only [ki_0, ki_1] at c1
      refine hs dX8_isBumper_22 (hs dX8_isBumper_23 (And.intro (rfl) (And.intro rfl (And.intro (rfl) ?_))))
      try simp only [ki_0, ki_1, b2_0, b2_1] at c1
      try simp only [Int32.lt_iff_toInt_lt, Int32.le_iff_toInt_le, ← Int32.toInt_inj, ti_0, ti_1] at c1
      exact hk
    · try dsimp only at c1
      try simp only [ki_0, ki_1] at c1
      refine hs dX8_isBumper_4 (hs dX8_isBumper_5 (hs dX8_isBumper_6 (And.intro (ob_0) (gr (r_0_0) (hs dX8_isBumper_9 (And.intro (ob_1) (gr (r_1_0) (hs dX8_isBumper_12 (And.intro (ob_2) (gx (v := 0) (by simp [u2, sL, sI, mx, zr, hb]) (hs dX8_isBumper_15 (And.intro (fun c15 => ?_) (fun c15 => ?_)))))))))))))
      · try dsimp only at c15
        try simp only [ki_0, ki_1] at c15
        refine hs dX8_isBumper_22 (hs dX8_isBumper_23 (And.intro (rfl) (And.intro rfl (And.intro (rfl) ?_))))
        try simp only [ki_0, ki_1, b2_0, b2_1] at c1 c15
        try simp only [Int32.lt_iff_toInt_lt, Int32.le_iff_toInt_le, ← Int32.toInt_inj, ti_0, ti_1] at c1 c15
        exact hk
      · try dsimp only at c15
        try simp only [ki_0, ki_1] at c15
        refine hs dX8_isBumper_18 (hs dX8_isBumper_19 (hs dX8_isBumper_23 (And.intro (rfl) (And.intro rfl (And.intro (rfl) ?_)))))
        try simp only [ki_0, ki_1, b2_0, b2_1] at c1 c15
        try simp only [Int32.lt_iff_toInt_lt, Int32.le_iff_toInt_le, ← Int32.toInt_inj, ti_0, ti_1] at c1 c15
        exfalso
        omega
  · exact h.elim
theorem ct_X8_isBumper {E : Ev} {l : Launch} : CT E l yX8_isBumper (wsY yX8_isBumper cX8_isBumper 2 (some .boolean)) rm_X8_isBumper 0 sp_X8_isBumper := ct_of (T := T_X8_isBumper) (own := RX8) (by decide) rfl (fun ci h10 hc => by have h2 : (99 : Nat) = ci := Nat.eq_of_beq_eq_true hc; omega) ⟨rfl, rfl⟩ ⟨fok_X8, clok_X8, jok_X8, fun _ h => absurd h List.not_mem_nil⟩ bd_X8_isBumper
def sp_X8_isAnyBeyond : Spc := fun as N lg it rf K => match as with | [.ref 0, .ref 2, .int a] => (N = NT ∧ rf = RF0 ∧ it 2 0 = 0) ∧ K (some (.int 0)) lg it rf | _ => False
def T_X8_isAnyBeyond : Tab := (FL_X8, CL_X8, JL_X8, [], 99, (some .boolean))
def rm_X8_isAnyBeyond : Room := { frames := 0, cells := 0, slots := 0, locals := 0 }
set_option maxRecDepth 100000 in
theorem bd_X8_isAnyBeyond (as : List Value) (N : Nat) (lg : LGt) (it : ITt) (rf : RFt) (Q : Post) (h : sp_X8_isAnyBeyond as N lg it rf Q) : Bd T_X8_isAnyBeyond cX8_isAnyBeyond 4 0 as N lg it rf Q := by
  unfold sp_X8_isAnyBeyond at h
  split at h
  · rename_i a
    refine ⟨Nat.le_of_ble_eq_true rfl, fun P hs hw => ?_⟩
    obtain ⟨⟨rfl, rfl, hb⟩, hk⟩ := h
    refine hs dX8_isAnyBeyond_0 (hs dX8_isAnyBeyond_1 (hs dX8_isAnyBeyond_2 (hs dX8_isAnyBeyond_3 (hs dX8_isAnyBeyond_4 (And.intro (ob_2) (gx (v := 0) (by simp [u2, sL, sI, mx, zr, hb]) (hs dX8_isAnyBeyond_7 (And.intro (fun c7 => ?_) (fun c7 => absurd (by decide) c7)))))))))
    refine hs dX8_isAnyBeyond_32 (hs dX8_isAnyBeyond_33 (And.intro (rfl) (And.intro rfl (And.intro (rfl) ?_))))
    exact hk
  · exact h.elim
theorem ct_X8_isAnyBeyond {E : Ev} {l : Launch} : CT E l yX8_isAnyBeyond (wsY yX8_isAnyBeyond cX8_isAnyBeyond 4 (some .boolean)) rm_X8_isAnyBeyond 0 sp_X8_isAnyBeyond := ct_of (T := T_X8_isAnyBeyond) (own := RX8) (by decide) rfl (fun ci h10 hc => by have h2 : (99 : Nat) = ci := Nat.eq_of_beq_eq_true hc; omega) ⟨rfl, rfl⟩ ⟨fok_X8, clok_X8, jok_X8, fun _ h => absurd h List.not_mem_nil⟩ bd_X8_isAnyBeyond
def sp_X8_toldWall : Spc := fun as N lg it rf K => match as with | [.ref 0, .int a] => (N = NT ∧ rf = RF0 ∧ (a = 0 ∨ a = 1) ∧ it 18 0 = 4 ∧ it 18 1 = 4) ∧ K (some (.int 4)) lg it rf | _ => False
def T_X8_toldWall : Tab := (FL_X8, CL_X8, JL_X8, [], 99, (some .int))
def rm_X8_toldWall : Room := { frames := 0, cells := 0, slots := 0, locals := 0 }
set_option maxRecDepth 100000 in
theorem bd_X8_toldWall (as : List Value) (N : Nat) (lg : LGt) (it : ITt) (rf : RFt) (Q : Post) (h : sp_X8_toldWall as N lg it rf Q) : Bd T_X8_toldWall cX8_toldWall 3 0 as N lg it rf Q := by
  unfold sp_X8_toldWall at h
  split at h
  · rename_i a
    refine ⟨Nat.le_of_ble_eq_true rfl, fun P hs hw => ?_⟩
    obtain ⟨⟨rfl, rfl, ha, hb1, hb2⟩, hk⟩ := h
    rcases ha with rfl | rfl
    · skip
      refine hs dX8_toldWall_0 (hs dX8_toldWall_1 (And.intro (ob_0) (gr (r_0_0) (hs dX8_toldWall_4 (And.intro (ob_1) (gr (r_1_0) (hs dX8_toldWall_7 (And.intro (ob_2) (gr (r_2_5) (hs dX8_toldWall_10 (hs dX8_toldWall_11 (And.intro (ob_18) (And.intro (vin ln_18 (by decide)) (gx (v := 4) (by simp [u2, sL, sI, mx, zr, hb1]) (hs dX8_toldWall_12 (hs dX8_toldWall_13 (hs dX8_toldWall_14 (hs dX8_toldWall_15 (And.intro (fun c15 => ?_) (fun c15 => absurd c15 (by decide)))))))))))))))))))))
      refine hs dX8_toldWall_23 (hs dX8_toldWall_24 (And.intro (rfl) (And.intro rfl ?_)))
      exact hk
    · skip
      refine hs dX8_toldWall_0 (hs dX8_toldWall_1 (And.intro (ob_0) (gr (r_0_0) (hs dX8_toldWall_4 (And.intro (ob_1) (gr (r_1_0) (hs dX8_toldWall_7 (And.intro (ob_2) (gr (r_2_5) (hs dX8_toldWall_10 (hs dX8_toldWall_11 (And.intro (ob_18) (And.intro (vin ln_18 (by decide)) (gx (v := 4) (by simp [u2, sL, sI, mx, zr, hb2]) (hs dX8_toldWall_12 (hs dX8_toldWall_13 (hs dX8_toldWall_14 (hs dX8_toldWall_15 (And.intro (fun c15 => ?_) (fun c15 => absurd c15 (by decide)))))))))))))))))))))
      refine hs dX8_toldWall_23 (hs dX8_toldWall_24 (And.intro (rfl) (And.intro rfl ?_)))
      exact hk
  · exact h.elim
theorem ct_X8_toldWall {E : Ev} {l : Launch} : CT E l yX8_toldWall (wsY yX8_toldWall cX8_toldWall 3 (some .int)) rm_X8_toldWall 0 sp_X8_toldWall := ct_of (T := T_X8_toldWall) (own := RX8) (by decide) rfl (fun ci h10 hc => by have h2 : (99 : Nat) = ci := Nat.eq_of_beq_eq_true hc; omega) ⟨rfl, rfl⟩ ⟨fok_X8, clok_X8, jok_X8, fun _ h => absurd h List.not_mem_nil⟩ bd_X8_toldWall
def sp_X8_bumper : Spc := fun as N lg it rf K => match as with | [.ref 0, .int a, .int b, .int c] => (N = NT ∧ lg = LG0 ∧ it = IT0 ∧ rf = RF0) ∧ ∀ lg' it', Up lg' it' → K (some (.int (an_bumper a b c))) lg' it' RF0 | _ => False
def T_X8_bumper : Tab := (FL_X8, CL_X8, JL_X8, [(69, 1, 1, 0, 0, sp_X8_isMass), (73, 1, 1, 0, 0, sp_X8_isSpeed), (84, 0, 2, 1, 0, sp_X1_become), (88, 0, 2, 1, 0, sp_X1_becomeWhole)], 99, (some .int))
def rm_X8_bumper : Room := { frames := 1, cells := 0, slots := 0, locals := 22 }
set_option maxRecDepth 100000 in
theorem bd_X8_bumper (as : List Value) (N : Nat) (lg : LGt) (it : ITt) (rf : RFt) (Q : Post) (h : sp_X8_bumper as N lg it rf Q) : Bd T_X8_bumper cX8_bumper 6 0 as N lg it rf Q := by
  unfold sp_X8_bumper at h
  split at h
  · rename_i a b c
    refine ⟨Nat.le_of_ble_eq_true rfl, fun P hs hw => ?_⟩
    obtain ⟨⟨rfl, rfl, rfl, rfl⟩, hk⟩ := h
    refine hs dX8_bumper_0 (hs dX8_bumper_1 (And.intro (ob_0) (gr (r_0_0) (hs dX8_bumper_4 (And.intro (ob_1) (gr (r_1_0) (hs dX8_bumper_7 (hs dX8_bumper_9 (hs dX8_bumper_10 (And.intro (fun c10 => ?_) (fun c10 => ?_)))))))))))
    · try dsimp only at c10
      try simp only [kb_m4, kb_m3, kb_m2, kb_6, kb_99, ki_1, kl_0] at c10
      refine hs dX8_bumper_33 (hs dX8_bumper_35 (And.intro (rfl) (And.intro rfl ?_)))
      try simp only [kb_m4, kb_m3, kb_m2, kb_6, kb_99, ki_1, kl_0, b2_0, b2_1, lg_cmp_lt, lg_cmp_gt, lg_cmp_le, lg_cmp_ge, lg_cmp_eq] at c10
      try simp only [Int32.lt_iff_toInt_lt, Int32.le_iff_toInt_le, ← Int32.toInt_inj, ti_m4, ti_m3, ti_m2, ti_0, ti_1, ti_6, ti_99, Int64.lt_iff_toInt_lt, Int64.le_iff_toInt_le, Int32.toInt_toInt64, tj_0, tj_1, lg_cmp_lt, lg_cmp_gt, lg_cmp_le, lg_cmp_ge, lg_cmp_eq] at c10
      have e : an_bumper a b c = (-2) := by
        first
        | (exfalso; omega)
        | unfold an_bumper
          try simp only [ti_0, ti_1]
          repeat (first | rw [if_pos (by first | omega | simp)] | rw [if_neg (by omega)])
          all_goals rfl
      rw [e] at hk
      exact hk _ _ (by repeat (first | exact Up_0 | assumption | refine Up_k ?_ (by assumption) (by assumption) | refine Up_u ?_ (by omega) | refine Up_sL ?_ (by omega) | refine Up_sI ?_ (by omega) | refine Up_l ?_ (by omega)))
    · try dsimp only at c10
      try simp only [kb_m4, kb_m3, kb_m2, kb_6, kb_99, ki_1, kl_0] at c10
      refine hs dX8_bumper_13 (hs dX8_bumper_14 (hs dX8_bumper_16 (And.intro (fun c16 => ?_) (fun c16 => ?_))))
      · try dsimp only at c16
        try simp only [kb_m4, kb_m3, kb_m2, kb_6, kb_99, ki_1, kl_0] at c16
        refine hs dX8_bumper_33 (hs dX8_bumper_35 (And.intro (rfl) (And.intro rfl ?_)))
        try simp only [kb_m4, kb_m3, kb_m2, kb_6, kb_99, ki_1, kl_0, b2_0, b2_1, lg_cmp_lt, lg_cmp_gt, lg_cmp_le, lg_cmp_ge, lg_cmp_eq] at c10 c16
        try simp only [Int32.lt_iff_toInt_lt, Int32.le_iff_toInt_le, ← Int32.toInt_inj, ti_m4, ti_m3, ti_m2, ti_0, ti_1, ti_6, ti_99, Int64.lt_iff_toInt_lt, Int64.le_iff_toInt_le, Int32.toInt_toInt64, tj_0, tj_1, lg_cmp_lt, lg_cmp_gt, lg_cmp_le, lg_cmp_ge, lg_cmp_eq] at c10 c16
        have e : an_bumper a b c = (-2) := by
          first
          | (exfalso; omega)
          | unfold an_bumper
            try simp only [ti_0, ti_1]
            repeat (first | rw [if_pos (by first | omega | simp)] | rw [if_neg (by omega)])
            all_goals rfl
        rw [e] at hk
        exact hk _ _ (by repeat (first | exact Up_0 | assumption | refine Up_k ?_ (by assumption) (by assumption) | refine Up_u ?_ (by omega) | refine Up_sL ?_ (by omega) | refine Up_sI ?_ (by omega) | refine Up_l ?_ (by omega)))
      · try dsimp only at c16
        try simp only [kb_m4, kb_m3, kb_m2, kb_6, kb_99, ki_1, kl_0] at c16
        refine hs dX8_bumper_19 (hs dX8_bumper_20 (And.intro (trivial) (n0 (hs dX8_bumper_23 (And.intro (fun c23 => ?_) (fun c23 => ?_))))))
        · try dsimp only at c23
          try simp only [kb_m4, kb_m3, kb_m2, kb_6, kb_99, ki_1, kl_0] at c23
          refine hs dX8_bumper_33 (hs dX8_bumper_35 (And.intro (rfl) (And.intro rfl ?_)))
          try simp only [kb_m4, kb_m3, kb_m2, kb_6, kb_99, ki_1, kl_0, b2_0, b2_1, lg_cmp_lt, lg_cmp_gt, lg_cmp_le, lg_cmp_ge, lg_cmp_eq] at c10 c16 c23
          try simp only [Int32.lt_iff_toInt_lt, Int32.le_iff_toInt_le, ← Int32.toInt_inj, ti_m4, ti_m3, ti_m2, ti_0, ti_1, ti_6, ti_99, Int64.lt_iff_toInt_lt, Int64.le_iff_toInt_le, Int32.toInt_toInt64, tj_0, tj_1, lg_cmp_lt, lg_cmp_gt, lg_cmp_le, lg_cmp_ge, lg_cmp_eq] at c10 c16 c23
          have e : an_bumper a b c = (-2) := by
            first
            | (exfalso; omega)
            | unfold an_bumper
              try simp only [ti_0, ti_1]
              repeat (first | rw [if_pos (by first | omega | simp)] | rw [if_neg (by omega)])
              all_goals rfl
          rw [e] at hk
          exact hk _ _ (by repeat (first | exact Up_0 | assumption | refine Up_k ?_ (by assumption) (by assumption) | refine Up_u ?_ (by omega) | refine Up_sL ?_ (by omega) | refine Up_sI ?_ (by omega) | refine Up_l ?_ (by omega)))
        · try dsimp only at c23
          try simp only [kb_m4, kb_m3, kb_m2, kb_6, kb_99, ki_1, kl_0] at c23
          refine hs dX8_bumper_26 (hs dX8_bumper_27 (And.intro (trivial) (n0 (hs dX8_bumper_30 (And.intro (fun c30 => ?_) (fun c30 => ?_))))))
          · try dsimp only at c30
            try simp only [kb_m4, kb_m3, kb_m2, kb_6, kb_99, ki_1, kl_0] at c30
            refine hs dX8_bumper_36 (hs dX8_bumper_38 (And.intro (ob_2) (gx (v := 0) (vit_2_0) (hs dX8_bumper_41 (And.intro (fun c41 => ?_) (fun c41 => absurd (by decide) c41))))))
            refine hs dX8_bumper_109 (hs dX8_bumper_111 (And.intro (ob_2) (gx (v := 0) (vit_2_0) (hs dX8_bumper_114 (hs dX8_bumper_116 (And.intro (fun c116 => ?_) (fun c116 => absurd (by decide) c116)))))))
            refine hs dX8_bumper_122 (hs dX8_bumper_124 (And.intro (ob_2) (gx (v := 0) (vit_2_0) (hs dX8_bumper_127 (hs dX8_bumper_129 (hs dX8_bumper_131 (And.intro (ob_2) (gr (r_2_2) (hs dX8_bumper_134 (hs dX8_bumper_136 (And.intro (oa_4) (And.intro (vin ln_4 (by decide)) (grv (r_4_0) (hs dX8_bumper_137 (hs dX8_bumper_138 (hs dX8_bumper_139 (And.intro (ob_6) (And.intro ob_6 (n0 (hs dX8_bumper_142 (hs dX8_bumper_144 (And.intro (ob_2) (gr (r_2_1) (hs dX8_bumper_147 (hs dX8_bumper_149 (hs dX8_bumper_150 (And.intro (ob_3) (And.intro (vin ln_3 (by decide)) (hs dX8_bumper_151 (hs dX8_bumper_153 (And.intro (ob_2) (gr (r_2_3) (hs dX8_bumper_156 (hs dX8_bumper_158 (And.intro (oa_5) (And.intro (vin ln_5 (by decide)) (grv (r_5_0) (hs dX8_bumper_159 (hs dX8_bumper_160 (hs dX8_bumper_161 (And.intro (ob_7) (And.intro ob_7 (n0 (hs dX8_bumper_164 (hs dX8_bumper_166 (hs dX8_bumper_168 (hs dX8_bumper_169 (hs dX8_bumper_170 (And.intro (ob_2) (hs dX8_bumper_173 (hs dX8_bumper_175 (And.intro (rfl) (And.intro rfl ?_)))))))))))))))))))))))))))))))))))))))))))))))))))))
            try simp only [kb_m4, kb_m3, kb_m2, kb_6, kb_99, ki_1, kl_0, b2_0, b2_1, lg_cmp_lt, lg_cmp_gt, lg_cmp_le, lg_cmp_ge, lg_cmp_eq] at c10 c16 c23 c30
            try simp only [Int32.lt_iff_toInt_lt, Int32.le_iff_toInt_le, ← Int32.toInt_inj, ti_m4, ti_m3, ti_m2, ti_0, ti_1, ti_6, ti_99, Int64.lt_iff_toInt_lt, Int64.le_iff_toInt_le, Int32.toInt_toInt64, tj_0, tj_1, lg_cmp_lt, lg_cmp_gt, lg_cmp_le, lg_cmp_ge, lg_cmp_eq] at c10 c16 c23 c30
            have e : an_bumper a b c = 0 := by
              first
              | (exfalso; omega)
              | unfold an_bumper
                try simp only [ti_0, ti_1]
                repeat (first | rw [if_pos (by first | omega | simp)] | rw [if_neg (by omega)])
                all_goals rfl
            rw [e] at hk
            exact hk _ _ (by repeat (first | exact Up_0 | assumption | refine Up_k ?_ (by assumption) (by assumption) | refine Up_u ?_ (by omega) | refine Up_sL ?_ (by omega) | refine Up_sI ?_ (by omega) | refine Up_l ?_ (by omega)))
          · try dsimp only at c30
            try simp only [kb_m4, kb_m3, kb_m2, kb_6, kb_99, ki_1, kl_0] at c30
            refine hs dX8_bumper_33 (hs dX8_bumper_35 (And.intro (rfl) (And.intro rfl ?_)))
            try simp only [kb_m4, kb_m3, kb_m2, kb_6, kb_99, ki_1, kl_0, b2_0, b2_1, lg_cmp_lt, lg_cmp_gt, lg_cmp_le, lg_cmp_ge, lg_cmp_eq] at c10 c16 c23 c30
            try simp only [Int32.lt_iff_toInt_lt, Int32.le_iff_toInt_le, ← Int32.toInt_inj, ti_m4, ti_m3, ti_m2, ti_0, ti_1, ti_6, ti_99, Int64.lt_iff_toInt_lt, Int64.le_iff_toInt_le, Int32.toInt_toInt64, tj_0, tj_1, lg_cmp_lt, lg_cmp_gt, lg_cmp_le, lg_cmp_ge, lg_cmp_eq] at c10 c16 c23 c30
            have e : an_bumper a b c = (-2) := by
              first
              | (exfalso; omega)
              | unfold an_bumper
                try simp only [ti_0, ti_1]
                repeat (first | rw [if_pos (by first | omega | simp)] | rw [if_neg (by omega)])
                all_goals rfl
            rw [e] at hk
            exact hk _ _ (by repeat (first | exact Up_0 | assumption | refine Up_k ?_ (by assumption) (by assumption) | refine Up_u ?_ (by omega) | refine Up_sL ?_ (by omega) | refine Up_sI ?_ (by omega) | refine Up_l ?_ (by omega)))
  · exact h.elim
theorem ct_X8_bumper {E : Ev} {l : Launch} : CT E l yX8_bumper (wsY yX8_bumper cX8_bumper 6 (some .int)) rm_X8_bumper 0 sp_X8_bumper := ct_of (T := T_X8_bumper) (own := RX8) (by decide) rfl (fun ci h10 hc => by have h2 : (99 : Nat) = ci := Nat.eq_of_beq_eq_true hc; omega) ⟨rfl, rfl⟩ ⟨fok_X8, clok_X8, jok_X8, List.forall_mem_cons.mpr ⟨cok_S ct_X8_isMass ((cl_ins (c := 8) (by decide)).2) ml_X8_69 im_X8_isMass co_X8_isMass mo_X8_isMass (by decide), List.forall_mem_cons.mpr ⟨cok_S ct_X8_isSpeed ((cl_ins (c := 8) (by decide)).2) ml_X8_73 im_X8_isSpeed co_X8_isSpeed mo_X8_isSpeed (by decide), List.forall_mem_cons.mpr ⟨cok_V ct_X1_become (by decide) rfl ml_X8_84 im_X1_become se_X1_become co_X1_become mo_X1_become (by decide), List.forall_mem_cons.mpr ⟨cok_V ct_X1_becomeWhole (by decide) rfl ml_X8_88 im_X1_becomeWhole se_X1_becomeWhole co_X1_becomeWhole mo_X1_becomeWhole (by decide), fun _ h => absurd h List.not_mem_nil⟩⟩⟩⟩⟩ bd_X8_bumper
def sp_X8_renew : Spc := fun as N lg it rf K => match as with | [.ref 0, .int a, .int b, .int c] => (N = NT ∧ lg = LG0 ∧ it = IT0 ∧ rf = RF0) ∧ ∀ lg' it', Up lg' it' → K (some (.int (an_renew a b c))) lg' it' RF0 | _ => False
def T_X8_renew : Tab := (FL_X8, CL_X8, JL_X8, [(109, 0, 2, 8, 0, sp_X8_isBumper), (69, 1, 1, 0, 0, sp_X8_isMass), (73, 1, 1, 0, 0, sp_X8_isSpeed), (88, 0, 2, 1, 0, sp_X1_becomeWhole)], 99, (some .int))
def rm_X8_renew : Room := { frames := 1, cells := 0, slots := 0, locals := 22 }
set_option maxRecDepth 100000 in
theorem bd_X8_renew (as : List Value) (N : Nat) (lg : LGt) (it : ITt) (rf : RFt) (Q : Post) (h : sp_X8_renew as N lg it rf Q) : Bd T_X8_renew cX8_renew 5 0 as N lg it rf Q := by
  unfold sp_X8_renew at h
  split at h
  · rename_i a b c
    refine ⟨Nat.le_of_ble_eq_true rfl, fun P hs hw => ?_⟩
    obtain ⟨⟨rfl, rfl, rfl, rfl⟩, hk⟩ := h
    refine hs dX8_renew_0 (hs dX8_renew_1 (And.intro (ob_0) (gr (r_0_0) (hs dX8_renew_4 (And.intro (ob_1) (gr (r_1_0) (hs dX8_renew_7 (hs dX8_renew_9 (hs dX8_renew_10 (hs dX8_renew_11 (And.intro (ob_0) (And.intro ⟨rfl, rfl, vit_2_0⟩ (n0 (hs dX8_renew_14 (And.intro (fun c14 => ?_) (fun c14 => absurd (by decide) c14))))))))))))))))
    refine hs dX8_renew_26 (hs dX8_renew_27 (And.intro (rfl) (And.intro rfl ?_)))
    have e : an_renew a b c = (-1) := rfl
    rw [e] at hk
    exact hk _ _ (by repeat (first | exact Up_0 | assumption | refine Up_k ?_ (by assumption) (by assumption) | refine Up_u ?_ (by omega) | refine Up_sL ?_ (by omega) | refine Up_sI ?_ (by omega) | refine Up_l ?_ (by omega)))
  · exact h.elim
theorem ct_X8_renew {E : Ev} {l : Launch} : CT E l yX8_renew (wsY yX8_renew cX8_renew 5 (some .int)) rm_X8_renew 0 sp_X8_renew := ct_of (T := T_X8_renew) (own := RX8) (by decide) rfl (fun ci h10 hc => by have h2 : (99 : Nat) = ci := Nat.eq_of_beq_eq_true hc; omega) ⟨rfl, rfl⟩ ⟨fok_X8, clok_X8, jok_X8, List.forall_mem_cons.mpr ⟨cok_V ct_X8_isBumper (by decide) rfl ml_X8_109 im_X8_isBumper se_X8_isBumper co_X8_isBumper mo_X8_isBumper (by decide), List.forall_mem_cons.mpr ⟨cok_S ct_X8_isMass ((cl_ins (c := 8) (by decide)).2) ml_X8_69 im_X8_isMass co_X8_isMass mo_X8_isMass (by decide), List.forall_mem_cons.mpr ⟨cok_S ct_X8_isSpeed ((cl_ins (c := 8) (by decide)).2) ml_X8_73 im_X8_isSpeed co_X8_isSpeed mo_X8_isSpeed (by decide), List.forall_mem_cons.mpr ⟨cok_V ct_X1_becomeWhole (by decide) rfl ml_X8_88 im_X1_becomeWhole se_X1_becomeWhole co_X1_becomeWhole mo_X1_becomeWhole (by decide), fun _ h => absurd h List.not_mem_nil⟩⟩⟩⟩⟩ bd_X8_renew
def sp_X8_spring : Spc := fun as N lg it rf K => match as with | [.ref 0, .int a] => (N = NT ∧ lg = LG0 ∧ it = IT0 ∧ rf = RF0) ∧ ∀ lg' it', Up lg' it' → K (some (.int (an_spring a))) lg' it' RF0 | _ => False
def T_X8_spring : Tab := (FL_X8, CL_X8, JL_X8, [(112, 1, 1, 0, 0, sp_X8_isQuarters)], 99, (some .int))
def rm_X8_spring : Room := { frames := 1, cells := 0, slots := 0, locals := 20 }
set_option maxRecDepth 100000 in
theorem bd_X8_spring (as : List Value) (N : Nat) (lg : LGt) (it : ITt) (rf : RFt) (Q : Post) (h : sp_X8_spring as N lg it rf Q) : Bd T_X8_spring cX8_spring 3 0 as N lg it rf Q := by
  unfold sp_X8_spring at h
  split at h
  · rename_i a
    refine ⟨Nat.le_of_ble_eq_true rfl, fun P hs hw => ?_⟩
    obtain ⟨⟨rfl, rfl, rfl, rfl⟩, hk⟩ := h
    refine hs dX8_spring_0 (hs dX8_spring_1 (And.intro (trivial) (n0 (hs dX8_spring_4 (And.intro (fun c4 => ?_) (fun c4 => ?_))))))
    · try dsimp only at c4
      try simp only [kb_m2] at c4
      refine hs dX8_spring_10 (hs dX8_spring_11 (And.intro (ob_0) (gr (r_0_0) (hs dX8_spring_14 (And.intro (ob_1) (gr (r_1_0) (hs dX8_spring_17 (And.intro (ob_2) (gx (v := 4) (vit_2_4) (hs dX8_spring_20 (hs dX8_spring_21 (hs dX8_spring_22 (And.intro (ob_0) (gr (r_0_0) (hs dX8_spring_25 (And.intro (ob_1) (gr (r_1_0) (hs dX8_spring_28 (hs dX8_spring_29 (And.intro (ob_2) (hs dX8_spring_32 (hs dX8_spring_33 (And.intro (rfl) (And.intro rfl ?_))))))))))))))))))))))))
      try simp only [kb_m2, b2_0, b2_1] at c4
      try simp only [Int32.lt_iff_toInt_lt, Int32.le_iff_toInt_le, ← Int32.toInt_inj, ti_m2, ti_0] at c4
      have e : an_spring a = 4 := by
        first
        | (exfalso; omega)
        | unfold an_spring
          try simp only [ti_0, ti_1]
          repeat (first | rw [if_pos (by first | omega | simp)] | rw [if_neg (by omega)])
          all_goals rfl
      rw [e] at hk
      exact hk _ _ (by repeat (first | exact Up_0 | assumption | refine Up_k ?_ (by assumption) (by assumption) | refine Up_u ?_ (by omega) | refine Up_sL ?_ (by omega) | refine Up_sI ?_ (by omega) | refine Up_l ?_ (by omega)))
    · try dsimp only at c4
      try simp only [kb_m2] at c4
      refine hs dX8_spring_7 (hs dX8_spring_9 (And.intro (rfl) (And.intro rfl ?_)))
      try simp only [kb_m2, b2_0, b2_1] at c4
      try simp only [Int32.lt_iff_toInt_lt, Int32.le_iff_toInt_le, ← Int32.toInt_inj, ti_m2, ti_0] at c4
      have e : an_spring a = (-2) := by
        first
        | (exfalso; omega)
        | unfold an_spring
          try simp only [ti_0, ti_1]
          repeat (first | rw [if_pos (by first | omega | simp)] | rw [if_neg (by omega)])
          all_goals rfl
      rw [e] at hk
      exact hk _ _ (by repeat (first | exact Up_0 | assumption | refine Up_k ?_ (by assumption) (by assumption) | refine Up_u ?_ (by omega) | refine Up_sL ?_ (by omega) | refine Up_sI ?_ (by omega) | refine Up_l ?_ (by omega)))
  · exact h.elim
theorem ct_X8_spring {E : Ev} {l : Launch} : CT E l yX8_spring (wsY yX8_spring cX8_spring 3 (some .int)) rm_X8_spring 0 sp_X8_spring := ct_of (T := T_X8_spring) (own := RX8) (by decide) rfl (fun ci h10 hc => by have h2 : (99 : Nat) = ci := Nat.eq_of_beq_eq_true hc; omega) ⟨rfl, rfl⟩ ⟨fok_X8, clok_X8, jok_X8, List.forall_mem_cons.mpr ⟨cok_S ct_X8_isQuarters ((cl_ins (c := 8) (by decide)).2) ml_X8_112 im_X8_isQuarters co_X8_isQuarters mo_X8_isQuarters (by decide), fun _ h => absurd h List.not_mem_nil⟩⟩ bd_X8_spring
def sp_X8_wall : Spc := fun as N lg it rf K => match as with | [.ref 0, .int a, .int b] => (N = NT ∧ lg = LG0 ∧ it = IT0 ∧ rf = RF0) ∧ ∀ lg' it', Up lg' it' → K (some (.int (an_wall a b))) lg' it' RF0 | _ => False
def T_X8_wall : Tab := (FL_X8, CL_X8, JL_X8, [(112, 1, 1, 0, 0, sp_X8_isQuarters), (118, 0, 3, 8, 0, sp_X8_isAnyBeyond), (122, 0, 2, 8, 0, sp_X8_toldWall)], 99, (some .int))
def rm_X8_wall : Room := { frames := 1, cells := 0, slots := 0, locals := 23 }
set_option maxRecDepth 100000 in
theorem bd_X8_wall (as : List Value) (N : Nat) (lg : LGt) (it : ITt) (rf : RFt) (Q : Post) (h : sp_X8_wall as N lg it rf Q) : Bd T_X8_wall cX8_wall 4 0 as N lg it rf Q := by
  unfold sp_X8_wall at h
  split at h
  · rename_i a b
    refine ⟨Nat.le_of_ble_eq_true rfl, fun P hs hw => ?_⟩
    obtain ⟨⟨rfl, rfl, rfl, rfl⟩, hk⟩ := h
    rcases (show a = 0 ∨ a = 1 ∨ (¬ a = 0 ∧ ¬ a = 1) by by_cases h0 : a = 0 <;> by_cases h1 : a = 1 <;> simp [h0, h1]) with rfl | rfl | ⟨d0, d1⟩
    · skip
      refine hs dX8_wall_0 (hs dX8_wall_1 (And.intro (fun c1 => ?_) (fun c1 => absurd (by decide) c1)))
      refine hs dX8_wall_11 (hs dX8_wall_12 (hs dX8_wall_13 (And.intro (fun c13 => ?_) (fun c13 => ?_))))
      · try dsimp only at c13
        try simp only [kb_m3, kb_m2, ki_m1, ki_1] at c13
        refine hs dX8_wall_26 (hs dX8_wall_27 (hs dX8_wall_28 (And.intro (fun c28 => ?_) (fun c28 => ?_))))
        · try dsimp only at c28
          try simp only [kb_m3, kb_m2, ki_m1, ki_1] at c28
          refine hs dX8_wall_49 (hs dX8_wall_50 (hs dX8_wall_51 (And.intro (ob_0) (And.intro ⟨rfl, rfl, Or.inl rfl, vit_18_0, vit_18_1⟩ (n0 (hs dX8_wall_54 (hs dX8_wall_55 (hs dX8_wall_56 (And.intro (ob_0) (gr (r_0_0) (hs dX8_wall_59 (And.intro (ob_1) (gr (r_1_0) (hs dX8_wall_62 (And.intro (ob_2) (gr (r_2_5) (hs dX8_wall_65 (hs dX8_wall_66 (hs dX8_wall_67 (And.intro (ob_18) (And.intro (vin ln_18 (by decide)) (hs dX8_wall_68 (hs dX8_wall_69 (And.intro (rfl) (And.intro rfl ?_)))))))))))))))))))))))))
          try simp only [kb_m3, kb_m2, ki_m1, ki_1, b2_0, b2_1] at c13 c28
          try simp only [Int32.lt_iff_toInt_lt, Int32.le_iff_toInt_le, ← Int32.toInt_inj, ti_m3, ti_m2, ti_m1, ti_0, ti_1] at c13 c28
          have e : an_wall 0 b = 4 := by
            first
            | (exfalso; omega)
            | unfold an_wall
              try simp only [ti_0, ti_1]
              repeat (first | rw [if_pos (by first | omega | simp)] | rw [if_neg (by omega)])
              all_goals rfl
          rw [e] at hk
          exact hk _ _ (by repeat (first | exact Up_0 | assumption | refine Up_k ?_ (by assumption) (by assumption) | refine Up_u ?_ (by omega) | refine Up_sL ?_ (by omega) | refine Up_sI ?_ (by omega) | refine Up_l ?_ (by omega)))
        · try dsimp only at c28
          try simp only [kb_m3, kb_m2, ki_m1, ki_1] at c28
          refine hs dX8_wall_31 (hs dX8_wall_32 (hs dX8_wall_33 (And.intro (ob_0) (gr (r_0_0) (hs dX8_wall_36 (And.intro (ob_1) (gr (r_1_0) (hs dX8_wall_39 (hs dX8_wall_40 (And.intro (ob_0) (And.intro ⟨rfl, rfl, vit_2_0⟩ (n0 (hs dX8_wall_43 (And.intro (fun c43 => ?_) (fun c43 => absurd (by decide) c43)))))))))))))))
          refine hs dX8_wall_49 (hs dX8_wall_50 (hs dX8_wall_51 (And.intro (ob_0) (And.intro ⟨rfl, rfl, Or.inl rfl, vit_18_0, vit_18_1⟩ (n0 (hs dX8_wall_54 (hs dX8_wall_55 (hs dX8_wall_56 (And.intro (ob_0) (gr (r_0_0) (hs dX8_wall_59 (And.intro (ob_1) (gr (r_1_0) (hs dX8_wall_62 (And.intro (ob_2) (gr (r_2_5) (hs dX8_wall_65 (hs dX8_wall_66 (hs dX8_wall_67 (And.intro (ob_18) (And.intro (vin ln_18 (by decide)) (hs dX8_wall_68 (hs dX8_wall_69 (And.intro (rfl) (And.intro rfl ?_)))))))))))))))))))))))))
          try simp only [kb_m3, kb_m2, ki_m1, ki_1, b2_0, b2_1] at c13 c28
          try simp only [Int32.lt_iff_toInt_lt, Int32.le_iff_toInt_le, ← Int32.toInt_inj, ti_m3, ti_m2, ti_m1, ti_0, ti_1] at c13 c28
          have e : an_wall 0 b = 4 := by
            first
            | (exfalso; omega)
            | unfold an_wall
              try simp only [ti_0, ti_1]
              repeat (first | rw [if_pos (by first | omega | simp)] | rw [if_neg (by omega)])
              all_goals rfl
          rw [e] at hk
          exact hk _ _ (by repeat (first | exact Up_0 | assumption | refine Up_k ?_ (by assumption) (by assumption) | refine Up_u ?_ (by omega) | refine Up_sL ?_ (by omega) | refine Up_sI ?_ (by omega) | refine Up_l ?_ (by omega)))
      · try dsimp only at c13
        try simp only [kb_m3, kb_m2, ki_m1, ki_1] at c13
        refine hs dX8_wall_16 (hs dX8_wall_17 (And.intro (trivial) (n0 (hs dX8_wall_20 (And.intro (fun c20 => ?_) (fun c20 => ?_))))))
        · try dsimp only at c20
          try simp only [kb_m3, kb_m2, ki_m1, ki_1] at c20
          refine hs dX8_wall_26 (hs dX8_wall_27 (hs dX8_wall_28 (And.intro (fun c28 => ?_) (fun c28 => ?_))))
          · try dsimp only at c28
            try simp only [kb_m3, kb_m2, ki_m1, ki_1] at c28
            refine hs dX8_wall_49 (hs dX8_wall_50 (hs dX8_wall_51 (And.intro (ob_0) (And.intro ⟨rfl, rfl, Or.inl rfl, vit_18_0, vit_18_1⟩ (n0 (hs dX8_wall_54 (hs dX8_wall_55 (hs dX8_wall_56 (And.intro (ob_0) (gr (r_0_0) (hs dX8_wall_59 (And.intro (ob_1) (gr (r_1_0) (hs dX8_wall_62 (And.intro (ob_2) (gr (r_2_5) (hs dX8_wall_65 (hs dX8_wall_66 (hs dX8_wall_67 (And.intro (ob_18) (And.intro (vin ln_18 (by decide)) (hs dX8_wall_68 (hs dX8_wall_69 (And.intro (rfl) (And.intro rfl ?_)))))))))))))))))))))))))
            try simp only [kb_m3, kb_m2, ki_m1, ki_1, b2_0, b2_1] at c13 c20 c28
            try simp only [Int32.lt_iff_toInt_lt, Int32.le_iff_toInt_le, ← Int32.toInt_inj, ti_m3, ti_m2, ti_m1, ti_0, ti_1] at c13 c20 c28
            have e : an_wall 0 b = 4 := by
              first
              | (exfalso; omega)
              | unfold an_wall
                try simp only [ti_0, ti_1]
                repeat (first | rw [if_pos (by first | omega | simp)] | rw [if_neg (by omega)])
                all_goals rfl
            rw [e] at hk
            exact hk _ _ (by repeat (first | exact Up_0 | assumption | refine Up_k ?_ (by assumption) (by assumption) | refine Up_u ?_ (by omega) | refine Up_sL ?_ (by omega) | refine Up_sI ?_ (by omega) | refine Up_l ?_ (by omega)))
          · try dsimp only at c28
            try simp only [kb_m3, kb_m2, ki_m1, ki_1] at c28
            refine hs dX8_wall_31 (hs dX8_wall_32 (hs dX8_wall_33 (And.intro (ob_0) (gr (r_0_0) (hs dX8_wall_36 (And.intro (ob_1) (gr (r_1_0) (hs dX8_wall_39 (hs dX8_wall_40 (And.intro (ob_0) (And.intro ⟨rfl, rfl, vit_2_0⟩ (n0 (hs dX8_wall_43 (And.intro (fun c43 => ?_) (fun c43 => absurd (by decide) c43)))))))))))))))
            refine hs dX8_wall_49 (hs dX8_wall_50 (hs dX8_wall_51 (And.intro (ob_0) (And.intro ⟨rfl, rfl, Or.inl rfl, vit_18_0, vit_18_1⟩ (n0 (hs dX8_wall_54 (hs dX8_wall_55 (hs dX8_wall_56 (And.intro (ob_0) (gr (r_0_0) (hs dX8_wall_59 (And.intro (ob_1) (gr (r_1_0) (hs dX8_wall_62 (And.intro (ob_2) (gr (r_2_5) (hs dX8_wall_65 (hs dX8_wall_66 (hs dX8_wall_67 (And.intro (ob_18) (And.intro (vin ln_18 (by decide)) (hs dX8_wall_68 (hs dX8_wall_69 (And.intro (rfl) (And.intro rfl ?_)))))))))))))))))))))))))
            try simp only [kb_m3, kb_m2, ki_m1, ki_1, b2_0, b2_1] at c13 c20 c28
            try simp only [Int32.lt_iff_toInt_lt, Int32.le_iff_toInt_le, ← Int32.toInt_inj, ti_m3, ti_m2, ti_m1, ti_0, ti_1] at c13 c20 c28
            have e : an_wall 0 b = 4 := by
              first
              | (exfalso; omega)
              | unfold an_wall
                try simp only [ti_0, ti_1]
                repeat (first | rw [if_pos (by first | omega | simp)] | rw [if_neg (by omega)])
                all_goals rfl
            rw [e] at hk
            exact hk _ _ (by repeat (first | exact Up_0 | assumption | refine Up_k ?_ (by assumption) (by assumption) | refine Up_u ?_ (by omega) | refine Up_sL ?_ (by omega) | refine Up_sI ?_ (by omega) | refine Up_l ?_ (by omega)))
        · try dsimp only at c20
          try simp only [kb_m3, kb_m2, ki_m1, ki_1] at c20
          refine hs dX8_wall_23 (hs dX8_wall_25 (And.intro (rfl) (And.intro rfl ?_)))
          try simp only [kb_m3, kb_m2, ki_m1, ki_1, b2_0, b2_1] at c13 c20
          try simp only [Int32.lt_iff_toInt_lt, Int32.le_iff_toInt_le, ← Int32.toInt_inj, ti_m3, ti_m2, ti_m1, ti_0, ti_1] at c13 c20
          have e : an_wall 0 b = (-2) := by
            first
            | (exfalso; omega)
            | unfold an_wall
              try simp only [ti_0, ti_1]
              repeat (first | rw [if_pos (by first | omega | simp)] | rw [if_neg (by omega)])
              all_goals rfl
          rw [e] at hk
          exact hk _ _ (by repeat (first | exact Up_0 | assumption | refine Up_k ?_ (by assumption) (by assumption) | refine Up_u ?_ (by omega) | refine Up_sL ?_ (by omega) | refine Up_sI ?_ (by omega) | refine Up_l ?_ (by omega)))
    · skip
      refine hs dX8_wall_0 (hs dX8_wall_1 (And.intro (fun c1 => absurd c1 (by decide)) (fun c1 => (hs dX8_wall_4 (hs dX8_wall_5 (hs dX8_wall_6 (And.intro (fun c6 => ?_) (fun c6 => absurd (by decide) c6))))))))
      refine hs dX8_wall_11 (hs dX8_wall_12 (hs dX8_wall_13 (And.intro (fun c13 => ?_) (fun c13 => ?_))))
      · try dsimp only at c13
        try simp only [kb_m3, kb_m2, ki_m1, ki_1] at c13
        refine hs dX8_wall_26 (hs dX8_wall_27 (hs dX8_wall_28 (And.intro (fun c28 => ?_) (fun c28 => ?_))))
        · try dsimp only at c28
          try simp only [kb_m3, kb_m2, ki_m1, ki_1] at c28
          refine hs dX8_wall_49 (hs dX8_wall_50 (hs dX8_wall_51 (And.intro (ob_0) (And.intro ⟨rfl, rfl, Or.inr rfl, vit_18_0, vit_18_1⟩ (n0 (hs dX8_wall_54 (hs dX8_wall_55 (hs dX8_wall_56 (And.intro (ob_0) (gr (r_0_0) (hs dX8_wall_59 (And.intro (ob_1) (gr (r_1_0) (hs dX8_wall_62 (And.intro (ob_2) (gr (r_2_5) (hs dX8_wall_65 (hs dX8_wall_66 (hs dX8_wall_67 (And.intro (ob_18) (And.intro (vin ln_18 (by decide)) (hs dX8_wall_68 (hs dX8_wall_69 (And.intro (rfl) (And.intro rfl ?_)))))))))))))))))))))))))
          try simp only [kb_m3, kb_m2, ki_m1, ki_1, b2_0, b2_1] at c13 c28
          try simp only [Int32.lt_iff_toInt_lt, Int32.le_iff_toInt_le, ← Int32.toInt_inj, ti_m3, ti_m2, ti_m1, ti_0, ti_1] at c13 c28
          have e : an_wall 1 b = 4 := by
            first
            | (exfalso; omega)
            | unfold an_wall
              try simp only [ti_0, ti_1]
              repeat (first | rw [if_pos (by first | omega | simp)] | rw [if_neg (by omega)])
              all_goals rfl
          rw [e] at hk
          exact hk _ _ (by repeat (first | exact Up_0 | assumption | refine Up_k ?_ (by assumption) (by assumption) | refine Up_u ?_ (by omega) | refine Up_sL ?_ (by omega) | refine Up_sI ?_ (by omega) | refine Up_l ?_ (by omega)))
        · try dsimp only at c28
          try simp only [kb_m3, kb_m2, ki_m1, ki_1] at c28
          refine hs dX8_wall_31 (hs dX8_wall_32 (hs dX8_wall_33 (And.intro (ob_0) (gr (r_0_0) (hs dX8_wall_36 (And.intro (ob_1) (gr (r_1_0) (hs dX8_wall_39 (hs dX8_wall_40 (And.intro (ob_0) (And.intro ⟨rfl, rfl, vit_2_0⟩ (n0 (hs dX8_wall_43 (And.intro (fun c43 => ?_) (fun c43 => absurd (by decide) c43)))))))))))))))
          refine hs dX8_wall_49 (hs dX8_wall_50 (hs dX8_wall_51 (And.intro (ob_0) (And.intro ⟨rfl, rfl, Or.inr rfl, vit_18_0, vit_18_1⟩ (n0 (hs dX8_wall_54 (hs dX8_wall_55 (hs dX8_wall_56 (And.intro (ob_0) (gr (r_0_0) (hs dX8_wall_59 (And.intro (ob_1) (gr (r_1_0) (hs dX8_wall_62 (And.intro (ob_2) (gr (r_2_5) (hs dX8_wall_65 (hs dX8_wall_66 (hs dX8_wall_67 (And.intro (ob_18) (And.intro (vin ln_18 (by decide)) (hs dX8_wall_68 (hs dX8_wall_69 (And.intro (rfl) (And.intro rfl ?_)))))))))))))))))))))))))
          try simp only [kb_m3, kb_m2, ki_m1, ki_1, b2_0, b2_1] at c13 c28
          try simp only [Int32.lt_iff_toInt_lt, Int32.le_iff_toInt_le, ← Int32.toInt_inj, ti_m3, ti_m2, ti_m1, ti_0, ti_1] at c13 c28
          have e : an_wall 1 b = 4 := by
            first
            | (exfalso; omega)
            | unfold an_wall
              try simp only [ti_0, ti_1]
              repeat (first | rw [if_pos (by first | omega | simp)] | rw [if_neg (by omega)])
              all_goals rfl
          rw [e] at hk
          exact hk _ _ (by repeat (first | exact Up_0 | assumption | refine Up_k ?_ (by assumption) (by assumption) | refine Up_u ?_ (by omega) | refine Up_sL ?_ (by omega) | refine Up_sI ?_ (by omega) | refine Up_l ?_ (by omega)))
      · try dsimp only at c13
        try simp only [kb_m3, kb_m2, ki_m1, ki_1] at c13
        refine hs dX8_wall_16 (hs dX8_wall_17 (And.intro (trivial) (n0 (hs dX8_wall_20 (And.intro (fun c20 => ?_) (fun c20 => ?_))))))
        · try dsimp only at c20
          try simp only [kb_m3, kb_m2, ki_m1, ki_1] at c20
          refine hs dX8_wall_26 (hs dX8_wall_27 (hs dX8_wall_28 (And.intro (fun c28 => ?_) (fun c28 => ?_))))
          · try dsimp only at c28
            try simp only [kb_m3, kb_m2, ki_m1, ki_1] at c28
            refine hs dX8_wall_49 (hs dX8_wall_50 (hs dX8_wall_51 (And.intro (ob_0) (And.intro ⟨rfl, rfl, Or.inr rfl, vit_18_0, vit_18_1⟩ (n0 (hs dX8_wall_54 (hs dX8_wall_55 (hs dX8_wall_56 (And.intro (ob_0) (gr (r_0_0) (hs dX8_wall_59 (And.intro (ob_1) (gr (r_1_0) (hs dX8_wall_62 (And.intro (ob_2) (gr (r_2_5) (hs dX8_wall_65 (hs dX8_wall_66 (hs dX8_wall_67 (And.intro (ob_18) (And.intro (vin ln_18 (by decide)) (hs dX8_wall_68 (hs dX8_wall_69 (And.intro (rfl) (And.intro rfl ?_)))))))))))))))))))))))))
            try simp only [kb_m3, kb_m2, ki_m1, ki_1, b2_0, b2_1] at c13 c20 c28
            try simp only [Int32.lt_iff_toInt_lt, Int32.le_iff_toInt_le, ← Int32.toInt_inj, ti_m3, ti_m2, ti_m1, ti_0, ti_1] at c13 c20 c28
            have e : an_wall 1 b = 4 := by
              first
              | (exfalso; omega)
              | unfold an_wall
                try simp only [ti_0, ti_1]
                repeat (first | rw [if_pos (by first | omega | simp)] | rw [if_neg (by omega)])
                all_goals rfl
            rw [e] at hk
            exact hk _ _ (by repeat (first | exact Up_0 | assumption | refine Up_k ?_ (by assumption) (by assumption) | refine Up_u ?_ (by omega) | refine Up_sL ?_ (by omega) | refine Up_sI ?_ (by omega) | refine Up_l ?_ (by omega)))
          · try dsimp only at c28
            try simp only [kb_m3, kb_m2, ki_m1, ki_1] at c28
            refine hs dX8_wall_31 (hs dX8_wall_32 (hs dX8_wall_33 (And.intro (ob_0) (gr (r_0_0) (hs dX8_wall_36 (And.intro (ob_1) (gr (r_1_0) (hs dX8_wall_39 (hs dX8_wall_40 (And.intro (ob_0) (And.intro ⟨rfl, rfl, vit_2_0⟩ (n0 (hs dX8_wall_43 (And.intro (fun c43 => ?_) (fun c43 => absurd (by decide) c43)))))))))))))))
            refine hs dX8_wall_49 (hs dX8_wall_50 (hs dX8_wall_51 (And.intro (ob_0) (And.intro ⟨rfl, rfl, Or.inr rfl, vit_18_0, vit_18_1⟩ (n0 (hs dX8_wall_54 (hs dX8_wall_55 (hs dX8_wall_56 (And.intro (ob_0) (gr (r_0_0) (hs dX8_wall_59 (And.intro (ob_1) (gr (r_1_0) (hs dX8_wall_62 (And.intro (ob_2) (gr (r_2_5) (hs dX8_wall_65 (hs dX8_wall_66 (hs dX8_wall_67 (And.intro (ob_18) (And.intro (vin ln_18 (by decide)) (hs dX8_wall_68 (hs dX8_wall_69 (And.intro (rfl) (And.intro rfl ?_)))))))))))))))))))))))))
            try simp only [kb_m3, kb_m2, ki_m1, ki_1, b2_0, b2_1] at c13 c20 c28
            try simp only [Int32.lt_iff_toInt_lt, Int32.le_iff_toInt_le, ← Int32.toInt_inj, ti_m3, ti_m2, ti_m1, ti_0, ti_1] at c13 c20 c28
            have e : an_wall 1 b = 4 := by
              first
              | (exfalso; omega)
              | unfold an_wall
                try simp only [ti_0, ti_1]
                repeat (first | rw [if_pos (by first | omega | simp)] | rw [if_neg (by omega)])
                all_goals rfl
            rw [e] at hk
            exact hk _ _ (by repeat (first | exact Up_0 | assumption | refine Up_k ?_ (by assumption) (by assumption) | refine Up_u ?_ (by omega) | refine Up_sL ?_ (by omega) | refine Up_sI ?_ (by omega) | refine Up_l ?_ (by omega)))
        · try dsimp only at c20
          try simp only [kb_m3, kb_m2, ki_m1, ki_1] at c20
          refine hs dX8_wall_23 (hs dX8_wall_25 (And.intro (rfl) (And.intro rfl ?_)))
          try simp only [kb_m3, kb_m2, ki_m1, ki_1, b2_0, b2_1] at c13 c20
          try simp only [Int32.lt_iff_toInt_lt, Int32.le_iff_toInt_le, ← Int32.toInt_inj, ti_m3, ti_m2, ti_m1, ti_0, ti_1] at c13 c20
          have e : an_wall 1 b = (-2) := by
            first
            | (exfalso; omega)
            | unfold an_wall
              try simp only [ti_0, ti_1]
              repeat (first | rw [if_pos (by first | omega | simp)] | rw [if_neg (by omega)])
              all_goals rfl
          rw [e] at hk
          exact hk _ _ (by repeat (first | exact Up_0 | assumption | refine Up_k ?_ (by assumption) (by assumption) | refine Up_u ?_ (by omega) | refine Up_sL ?_ (by omega) | refine Up_sI ?_ (by omega) | refine Up_l ?_ (by omega)))
    · have d0i : ¬ a.toInt = 0 := fun q => d0 (Int32.toInt_inj.mp q)
      have d1i : ¬ a.toInt = 1 := fun q => d1 (Int32.toInt_inj.mp q)
      refine hs dX8_wall_0 (hs dX8_wall_1 (And.intro (fun c1 => absurd c1 d0) (fun c1 => (hs dX8_wall_4 (hs dX8_wall_5 (hs dX8_wall_6 (And.intro (fun c6 => absurd c6 d1) (fun c6 => (hs dX8_wall_9 (hs dX8_wall_10 (And.intro (rfl) (And.intro rfl ?_))))))))))))
      have e : an_wall a b = (-1) := by
        first
        | (exfalso; omega)
        | unfold an_wall
          try simp only [ti_0, ti_1]
          repeat (first | rw [if_pos (by first | omega | simp)] | rw [if_neg (by omega)])
          all_goals rfl
      rw [e] at hk
      exact hk _ _ (by repeat (first | exact Up_0 | assumption | refine Up_k ?_ (by assumption) (by assumption) | refine Up_u ?_ (by omega) | refine Up_sL ?_ (by omega) | refine Up_sI ?_ (by omega) | refine Up_l ?_ (by omega)))
  · exact h.elim
theorem ct_X8_wall {E : Ev} {l : Launch} : CT E l yX8_wall (wsY yX8_wall cX8_wall 4 (some .int)) rm_X8_wall 0 sp_X8_wall := ct_of (T := T_X8_wall) (own := RX8) (by decide) rfl (fun ci h10 hc => by have h2 : (99 : Nat) = ci := Nat.eq_of_beq_eq_true hc; omega) ⟨rfl, rfl⟩ ⟨fok_X8, clok_X8, jok_X8, List.forall_mem_cons.mpr ⟨cok_S ct_X8_isQuarters ((cl_ins (c := 8) (by decide)).2) ml_X8_112 im_X8_isQuarters co_X8_isQuarters mo_X8_isQuarters (by decide), List.forall_mem_cons.mpr ⟨cok_V ct_X8_isAnyBeyond (by decide) rfl ml_X8_118 im_X8_isAnyBeyond se_X8_isAnyBeyond co_X8_isAnyBeyond mo_X8_isAnyBeyond (by decide), List.forall_mem_cons.mpr ⟨cok_V ct_X8_toldWall (by decide) rfl ml_X8_122 im_X8_toldWall se_X8_toldWall co_X8_toldWall mo_X8_toldWall (by decide), fun _ h => absurd h List.not_mem_nil⟩⟩⟩⟩ bd_X8_wall
def sp_X8_feed : Spc := fun as N lg it rf K => match as with | [.ref 0, .int a] => (N = NT ∧ lg = LG0 ∧ it = IT0 ∧ rf = RF0) ∧ ∀ lg' it', Up lg' it' → K (some (.int (an_feed a))) lg' it' RF0 | _ => False
def T_X8_feed : Tab := (FL_X8, CL_X8, JL_X8, [], 99, (some .int))
def rm_X8_feed : Room := { frames := 0, cells := 0, slots := 0, locals := 0 }
set_option maxRecDepth 100000 in
theorem bd_X8_feed (as : List Value) (N : Nat) (lg : LGt) (it : ITt) (rf : RFt) (Q : Post) (h : sp_X8_feed as N lg it rf Q) : Bd T_X8_feed cX8_feed 2 0 as N lg it rf Q := by
  unfold sp_X8_feed at h
  split at h
  · rename_i a
    refine ⟨Nat.le_of_ble_eq_true rfl, fun P hs hw => ?_⟩
    obtain ⟨⟨rfl, rfl, rfl, rfl⟩, hk⟩ := h
    refine hs dX8_feed_0 (hs dX8_feed_1 (And.intro (fun c1 => ?_) (fun c1 => ?_)))
    · try dsimp only at c1
      try simp only [kb_m4, kb_m2, kb_100, kb_127, ki_1] at c1
      refine hs dX8_feed_10 (hs dX8_feed_12 (And.intro (rfl) (And.intro rfl ?_)))
      try simp only [kb_m4, kb_m2, kb_100, kb_127, ki_1, b2_0, b2_1] at c1
      try simp only [Int32.lt_iff_toInt_lt, Int32.le_iff_toInt_le, ← Int32.toInt_inj, ti_m4, ti_m2, ti_0, ti_1, ti_100, ti_127] at c1
      have e : an_feed a = (-2) := by
        first
        | (exfalso; omega)
        | unfold an_feed
          try simp only [ti_0, ti_1]
          repeat (first | rw [if_pos (by first | omega | simp)] | rw [if_neg (by omega)])
          all_goals rfl
      rw [e] at hk
      exact hk _ _ (by repeat (first | exact Up_0 | assumption | refine Up_k ?_ (by assumption) (by assumption) | refine Up_u ?_ (by omega) | refine Up_sL ?_ (by omega) | refine Up_sI ?_ (by omega) | refine Up_l ?_ (by omega)))
    · try dsimp only at c1
      try simp only [kb_m4, kb_m2, kb_100, kb_127, ki_1] at c1
      refine hs dX8_feed_4 (hs dX8_feed_5 (hs dX8_feed_7 (And.intro (fun c7 => ?_) (fun c7 => ?_))))
      · try dsimp only at c7
        try simp only [kb_m4, kb_m2, kb_100, kb_127, ki_1] at c7
        refine hs dX8_feed_13 (hs dX8_feed_14 (And.intro (ob_0) (gr (r_0_5) (hs dX8_feed_17 (And.intro (ob_467) (gx (v := 0) (vit_467_1) (hs dX8_feed_20 (hs dX8_feed_22 (And.intro (fun c22 => ?_) (fun c22 => absurd (by decide) c22))))))))))
        refine hs dX8_feed_28 (hs dX8_feed_29 (And.intro (ob_0) (gr (r_0_5) (hs dX8_feed_32 (And.intro (ob_467) (gr (r_467_0) (hs dX8_feed_35 (hs dX8_feed_36 (And.intro (ob_0) (gr (r_0_5) (hs dX8_feed_39 (And.intro (ob_467) (gx (v := 0) (vit_467_1) (hs dX8_feed_42 (hs dX8_feed_43 (hs dX8_feed_44 (And.intro (ob_468) (And.intro (vin ln_468 (by decide)) (hs dX8_feed_45 (hs dX8_feed_46 (And.intro (ob_0) (gr (r_0_5) (hs dX8_feed_49 (hs dX8_feed_50 (And.intro (ob_467) (gx (v := 0) (by simp [u2, sL, sI, mx, zr, vit_467_1]) (hs dX8_feed_53 (hs dX8_feed_54 (hs dX8_feed_55 (And.intro (ob_467) (hs dX8_feed_58 (hs dX8_feed_59 (And.intro (ob_0) (gr (r_0_5) (hs dX8_feed_62 (And.intro (ob_467) (gx (v := 1) (by simp [u2, sL, sI, mx, zr, kb_m4, kb_m2, kb_100, kb_127, ki_1]) (hs dX8_feed_65 (And.intro (rfl) (And.intro rfl ?_))))))))))))))))))))))))))))))))))))))))
        try simp only [kb_m4, kb_m2, kb_100, kb_127, ki_1, b2_0, b2_1] at c1 c7
        try simp only [Int32.lt_iff_toInt_lt, Int32.le_iff_toInt_le, ← Int32.toInt_inj, ti_m4, ti_m2, ti_0, ti_1, ti_100, ti_127] at c1 c7
        have e : an_feed a = 1 := by
          first
          | (exfalso; omega)
          | unfold an_feed
            try simp only [ti_0, ti_1]
            repeat (first | rw [if_pos (by first | omega | simp)] | rw [if_neg (by omega)])
            all_goals rfl
        rw [e] at hk
        exact hk _ _ (by repeat (first | exact Up_0 | assumption | refine Up_k ?_ (by assumption) (by assumption) | refine Up_u ?_ (by omega) | refine Up_sL ?_ (by omega) | refine Up_sI ?_ (by omega) | refine Up_l ?_ (by omega)))
      · try dsimp only at c7
        try simp only [kb_m4, kb_m2, kb_100, kb_127, ki_1] at c7
        refine hs dX8_feed_10 (hs dX8_feed_12 (And.intro (rfl) (And.intro rfl ?_)))
        try simp only [kb_m4, kb_m2, kb_100, kb_127, ki_1, b2_0, b2_1] at c1 c7
        try simp only [Int32.lt_iff_toInt_lt, Int32.le_iff_toInt_le, ← Int32.toInt_inj, ti_m4, ti_m2, ti_0, ti_1, ti_100, ti_127] at c1 c7
        have e : an_feed a = (-2) := by
          first
          | (exfalso; omega)
          | unfold an_feed
            try simp only [ti_0, ti_1]
            repeat (first | rw [if_pos (by first | omega | simp)] | rw [if_neg (by omega)])
            all_goals rfl
        rw [e] at hk
        exact hk _ _ (by repeat (first | exact Up_0 | assumption | refine Up_k ?_ (by assumption) (by assumption) | refine Up_u ?_ (by omega) | refine Up_sL ?_ (by omega) | refine Up_sI ?_ (by omega) | refine Up_l ?_ (by omega)))
  · exact h.elim
theorem ct_X8_feed {E : Ev} {l : Launch} : CT E l yX8_feed (wsY yX8_feed cX8_feed 2 (some .int)) rm_X8_feed 0 sp_X8_feed := ct_of (T := T_X8_feed) (own := RX8) (by decide) rfl (fun ci h10 hc => by have h2 : (99 : Nat) = ci := Nat.eq_of_beq_eq_true hc; omega) ⟨rfl, rfl⟩ ⟨fok_X8, clok_X8, jok_X8, fun _ h => absurd h List.not_mem_nil⟩ bd_X8_feed
def sp_X8_of : Spc := fun as N lg it rf K => match as with | [.ref 0, .int a, .int b, .int c] => (N = NT ∧ lg = LG0 ∧ it = IT0 ∧ rf = RF0) ∧ ∀ lg' it', Up lg' it' → K (some (.long (an_of a b c))) lg' it' RF0 | _ => False
def T_X8_of : Tab := (FL_X8, CL_X8, JL_X8, [(109, 0, 2, 8, 0, sp_X8_isBumper), (185, 1, 1, 0, 0, sp_X8_isPart), (194, 0, 2, 1, 0, sp_X1_half)], 99, (some .long))
def rm_X8_of : Room := { frames := 1, cells := 0, slots := 0, locals := 21 }
set_option maxRecDepth 100000 in
theorem bd_X8_of (as : List Value) (N : Nat) (lg : LGt) (it : ITt) (rf : RFt) (Q : Post) (h : sp_X8_of as N lg it rf Q) : Bd T_X8_of cX8_of 4 0 as N lg it rf Q := by
  unfold sp_X8_of at h
  split at h
  · rename_i a b c
    refine ⟨Nat.le_of_ble_eq_true rfl, fun P hs hw => ?_⟩
    obtain ⟨⟨rfl, rfl, rfl, rfl⟩, hk⟩ := h
    refine hs dX8_of_0 (hs dX8_of_1 (hs dX8_of_2 (And.intro (ob_0) (And.intro ⟨rfl, rfl, vit_2_0⟩ (n0 (hs dX8_of_5 (And.intro (fun c5 => ?_) (fun c5 => absurd (by decide) c5))))))))
    refine hs dX8_of_24 (hs dX8_of_27 (And.intro (rfl) (And.intro rfl ?_)))
    have e : an_of a b c = (-9223372036854775808) := rfl
    rw [e] at hk
    exact hk _ _ (by repeat (first | exact Up_0 | assumption | refine Up_k ?_ (by assumption) (by assumption) | refine Up_u ?_ (by omega) | refine Up_sL ?_ (by omega) | refine Up_sI ?_ (by omega) | refine Up_l ?_ (by omega)))
  · exact h.elim
theorem ct_X8_of {E : Ev} {l : Launch} : CT E l yX8_of (wsY yX8_of cX8_of 4 (some .long)) rm_X8_of 0 sp_X8_of := ct_of (T := T_X8_of) (own := RX8) (by decide) rfl (fun ci h10 hc => by have h2 : (99 : Nat) = ci := Nat.eq_of_beq_eq_true hc; omega) ⟨rfl, rfl⟩ ⟨fok_X8, clok_X8, jok_X8, List.forall_mem_cons.mpr ⟨cok_V ct_X8_isBumper (by decide) rfl ml_X8_109 im_X8_isBumper se_X8_isBumper co_X8_isBumper mo_X8_isBumper (by decide), List.forall_mem_cons.mpr ⟨cok_S ct_X8_isPart ((cl_ins (c := 8) (by decide)).2) ml_X8_185 im_X8_isPart co_X8_isPart mo_X8_isPart (by decide), List.forall_mem_cons.mpr ⟨cok_V ct_X1_half (by decide) rfl ml_X8_194 im_X1_half se_X1_half co_X1_half mo_X1_half (by decide), fun _ h => absurd h List.not_mem_nil⟩⟩⟩⟩ bd_X8_of
def sp_X8_often : Spc := fun as N lg it rf K => match as with | [.ref 0, .int a] => (N = NT ∧ lg = LG0 ∧ it = IT0 ∧ rf = RF0) ∧ ∀ lg' it', Up lg' it' → K (some (.int (an_often a))) lg' it' RF0 | _ => False
def T_X8_often : Tab := (FL_X8, CL_X8, JL_X8, [(109, 0, 2, 8, 0, sp_X8_isBumper)], 99, (some .int))
def rm_X8_often : Room := { frames := 1, cells := 0, slots := 0, locals := 21 }
set_option maxRecDepth 100000 in
theorem bd_X8_often (as : List Value) (N : Nat) (lg : LGt) (it : ITt) (rf : RFt) (Q : Post) (h : sp_X8_often as N lg it rf Q) : Bd T_X8_often cX8_often 4 0 as N lg it rf Q := by
  unfold sp_X8_often at h
  split at h
  · rename_i a
    refine ⟨Nat.le_of_ble_eq_true rfl, fun P hs hw => ?_⟩
    obtain ⟨⟨rfl, rfl, rfl, rfl⟩, hk⟩ := h
    refine hs dX8_often_0 (hs dX8_often_1 (hs dX8_often_2 (And.intro (ob_0) (And.intro ⟨rfl, rfl, vit_2_0⟩ (n0 (hs dX8_often_5 (And.intro (fun c5 => absurd rfl c5) (fun c5 => (hs dX8_often_8 (hs dX8_often_9 (And.intro (rfl) (And.intro rfl ?_))))))))))))
    have e : an_often a = (-1) := rfl
    rw [e] at hk
    exact hk _ _ (by repeat (first | exact Up_0 | assumption | refine Up_k ?_ (by assumption) (by assumption) | refine Up_u ?_ (by omega) | refine Up_sL ?_ (by omega) | refine Up_sI ?_ (by omega) | refine Up_l ?_ (by omega)))
  · exact h.elim
theorem ct_X8_often {E : Ev} {l : Launch} : CT E l yX8_often (wsY yX8_often cX8_often 4 (some .int)) rm_X8_often 0 sp_X8_often := ct_of (T := T_X8_often) (own := RX8) (by decide) rfl (fun ci h10 hc => by have h2 : (99 : Nat) = ci := Nat.eq_of_beq_eq_true hc; omega) ⟨rfl, rfl⟩ ⟨fok_X8, clok_X8, jok_X8, List.forall_mem_cons.mpr ⟨cok_V ct_X8_isBumper (by decide) rfl ml_X8_109 im_X8_isBumper se_X8_isBumper co_X8_isBumper mo_X8_isBumper (by decide), fun _ h => absurd h List.not_mem_nil⟩⟩ bd_X8_often
def sp_X8_at : Spc := fun as N lg it rf K => match as with | [.ref 0, .int a, .int b, .int c] => (N = NT ∧ lg = LG0 ∧ it = IT0 ∧ rf = RF0) ∧ ∀ lg' it', Up lg' it' → K (some (.long (an_at a b c))) lg' it' RF0 | _ => False
def T_X8_at : Tab := (FL_X8, CL_X8, JL_X8, [(109, 0, 2, 8, 0, sp_X8_isBumper), (185, 1, 1, 0, 0, sp_X8_isPart), (88, 0, 2, 1, 0, sp_X1_becomeWhole), (84, 0, 2, 1, 0, sp_X1_become), (194, 0, 2, 1, 0, sp_X1_half)], 99, (some .long))
def rm_X8_at : Room := { frames := 1, cells := 0, slots := 0, locals := 22 }
set_option maxRecDepth 100000 in
theorem bd_X8_at (as : List Value) (N : Nat) (lg : LGt) (it : ITt) (rf : RFt) (Q : Post) (h : sp_X8_at as N lg it rf Q) : Bd T_X8_at cX8_at 5 0 as N lg it rf Q := by
  unfold sp_X8_at at h
  split at h
  · rename_i a b c
    refine ⟨Nat.le_of_ble_eq_true rfl, fun P hs hw => ?_⟩
    obtain ⟨⟨rfl, rfl, rfl, rfl⟩, hk⟩ := h
    refine hs dX8_at_0 (hs dX8_at_1 (hs dX8_at_2 (And.intro (ob_0) (And.intro ⟨rfl, rfl, vit_2_0⟩ (n0 (hs dX8_at_5 (And.intro (fun c5 => ?_) (fun c5 => absurd (by decide) c5))))))))
    refine hs dX8_at_25 (hs dX8_at_28 (And.intro (rfl) (And.intro rfl ?_)))
    have e : an_at a b c = (-9223372036854775808) := rfl
    rw [e] at hk
    exact hk _ _ (by repeat (first | exact Up_0 | assumption | refine Up_k ?_ (by assumption) (by assumption) | refine Up_u ?_ (by omega) | refine Up_sL ?_ (by omega) | refine Up_sI ?_ (by omega) | refine Up_l ?_ (by omega)))
  · exact h.elim
theorem ct_X8_at {E : Ev} {l : Launch} : CT E l yX8_at (wsY yX8_at cX8_at 5 (some .long)) rm_X8_at 0 sp_X8_at := ct_of (T := T_X8_at) (own := RX8) (by decide) rfl (fun ci h10 hc => by have h2 : (99 : Nat) = ci := Nat.eq_of_beq_eq_true hc; omega) ⟨rfl, rfl⟩ ⟨fok_X8, clok_X8, jok_X8, List.forall_mem_cons.mpr ⟨cok_V ct_X8_isBumper (by decide) rfl ml_X8_109 im_X8_isBumper se_X8_isBumper co_X8_isBumper mo_X8_isBumper (by decide), List.forall_mem_cons.mpr ⟨cok_S ct_X8_isPart ((cl_ins (c := 8) (by decide)).2) ml_X8_185 im_X8_isPart co_X8_isPart mo_X8_isPart (by decide), List.forall_mem_cons.mpr ⟨cok_V ct_X1_becomeWhole (by decide) rfl ml_X8_88 im_X1_becomeWhole se_X1_becomeWhole co_X1_becomeWhole mo_X1_becomeWhole (by decide), List.forall_mem_cons.mpr ⟨cok_V ct_X1_become (by decide) rfl ml_X8_84 im_X1_become se_X1_become co_X1_become mo_X1_become (by decide), List.forall_mem_cons.mpr ⟨cok_V ct_X1_half (by decide) rfl ml_X8_194 im_X1_half se_X1_half co_X1_half mo_X1_half (by decide), fun _ h => absurd h List.not_mem_nil⟩⟩⟩⟩⟩⟩ bd_X8_at
def sp_X8_fits : Spc := fun as N lg it rf K => match as with | [.ref 0, .int a, .int b] => (N = NT ∧ lg = LG0 ∧ it = IT0 ∧ rf = RF0) ∧ ∀ lg' it', Up lg' it' → K (some (.int (an_fits a b))) lg' it' RF0 | _ => False
def T_X8_fits : Tab := (FL_X8, CL_X8, JL_X8, [(109, 0, 2, 8, 0, sp_X8_isBumper), (236, 1, 2, 0, 0, sp_max), (88, 0, 2, 1, 0, sp_X1_becomeWhole)], 99, (some .int))
def rm_X8_fits : Room := { frames := 1, cells := 0, slots := 0, locals := 22 }
set_option maxRecDepth 100000 in
theorem bd_X8_fits (as : List Value) (N : Nat) (lg : LGt) (it : ITt) (rf : RFt) (Q : Post) (h : sp_X8_fits as N lg it rf Q) : Bd T_X8_fits cX8_fits 7 0 as N lg it rf Q := by
  unfold sp_X8_fits at h
  split at h
  · rename_i a b
    refine ⟨Nat.le_of_ble_eq_true rfl, fun P hs hw => ?_⟩
    obtain ⟨⟨rfl, rfl, rfl, rfl⟩, hk⟩ := h
    refine hs dX8_fits_0 (hs dX8_fits_1 (hs dX8_fits_2 (And.intro (ob_0) (And.intro ⟨rfl, rfl, vit_2_0⟩ (n0 (hs dX8_fits_5 (And.intro (fun c5 => ?_) (fun c5 => absurd (by decide) c5))))))))
    refine hs dX8_fits_17 (hs dX8_fits_18 (And.intro (rfl) (And.intro rfl ?_)))
    have e : an_fits a b = (-1) := rfl
    rw [e] at hk
    exact hk _ _ (by repeat (first | exact Up_0 | assumption | refine Up_k ?_ (by assumption) (by assumption) | refine Up_u ?_ (by omega) | refine Up_sL ?_ (by omega) | refine Up_sI ?_ (by omega) | refine Up_l ?_ (by omega)))
  · exact h.elim
theorem ct_X8_fits {E : Ev} {l : Launch} : CT E l yX8_fits (wsY yX8_fits cX8_fits 7 (some .int)) rm_X8_fits 0 sp_X8_fits := ct_of (T := T_X8_fits) (own := RX8) (by decide) rfl (fun ci h10 hc => by have h2 : (99 : Nat) = ci := Nat.eq_of_beq_eq_true hc; omega) ⟨rfl, rfl⟩ ⟨fok_X8, clok_X8, jok_X8, List.forall_mem_cons.mpr ⟨cok_V ct_X8_isBumper (by decide) rfl ml_X8_109 im_X8_isBumper se_X8_isBumper co_X8_isBumper mo_X8_isBumper (by decide), List.forall_mem_cons.mpr ⟨cok_max ml_X8_236 o_math.1 o_math.2.2.1 o_math.2.2.2.1 (by decide), List.forall_mem_cons.mpr ⟨cok_V ct_X1_becomeWhole (by decide) rfl ml_X8_88 im_X1_becomeWhole se_X1_becomeWhole co_X1_becomeWhole mo_X1_becomeWhole (by decide), fun _ h => absurd h List.not_mem_nil⟩⟩⟩⟩ bd_X8_fits
def sp_X8_mean : Spc := fun as N lg it rf K => match as with | [.ref 0, .int a] => (N = NT ∧ lg = LG0 ∧ it = IT0 ∧ rf = RF0) ∧ ∀ lg' it', Up lg' it' → K (some (.long (an_mean a))) lg' it' RF0 | _ => False
def T_X8_mean : Tab := (FL_X8, CL_X8, JL_X8, [(185, 1, 1, 0, 0, sp_X8_isPart), (245, 0, 3, 1, 0, sp_X1_becomeRatio), (194, 0, 2, 1, 0, sp_X1_half)], 99, (some .long))
def rm_X8_mean : Room := { frames := 2, cells := 0, slots := 0, locals := 55 }
set_option maxRecDepth 100000 in
theorem bd_X8_mean (as : List Value) (N : Nat) (lg : LGt) (it : ITt) (rf : RFt) (Q : Post) (h : sp_X8_mean as N lg it rf Q) : Bd T_X8_mean cX8_mean 5 0 as N lg it rf Q := by
  unfold sp_X8_mean at h
  split at h
  · rename_i a
    refine ⟨Nat.le_of_ble_eq_true rfl, fun P hs hw => ?_⟩
    obtain ⟨⟨rfl, rfl, rfl, rfl⟩, hk⟩ := h
    refine hs dX8_mean_0 (hs dX8_mean_1 (And.intro (ob_0) (gr (r_0_0) (hs dX8_mean_4 (And.intro (ob_1) (gr (r_1_0) (hs dX8_mean_7 (hs dX8_mean_8 (hs dX8_mean_9 (And.intro (ob_2) (gx (v := 0) (vit_2_0) (hs dX8_mean_12 (And.intro (fun c12 => ?_) (fun c12 => absurd (by decide) c12))))))))))))))
    refine hs dX8_mean_22 (hs dX8_mean_25 (And.intro (rfl) (And.intro rfl ?_)))
    have e : an_mean a = (-9223372036854775808) := rfl
    rw [e] at hk
    exact hk _ _ (by repeat (first | exact Up_0 | assumption | refine Up_k ?_ (by assumption) (by assumption) | refine Up_u ?_ (by omega) | refine Up_sL ?_ (by omega) | refine Up_sI ?_ (by omega) | refine Up_l ?_ (by omega)))
  · exact h.elim
theorem ct_X8_mean {E : Ev} {l : Launch} : CT E l yX8_mean (wsY yX8_mean cX8_mean 5 (some .long)) rm_X8_mean 0 sp_X8_mean := ct_of (T := T_X8_mean) (own := RX8) (by decide) rfl (fun ci h10 hc => by have h2 : (99 : Nat) = ci := Nat.eq_of_beq_eq_true hc; omega) ⟨rfl, rfl⟩ ⟨fok_X8, clok_X8, jok_X8, List.forall_mem_cons.mpr ⟨cok_S ct_X8_isPart ((cl_ins (c := 8) (by decide)).2) ml_X8_185 im_X8_isPart co_X8_isPart mo_X8_isPart (by decide), List.forall_mem_cons.mpr ⟨cok_V ct_X1_becomeRatio (by decide) rfl ml_X8_245 im_X1_becomeRatio se_X1_becomeRatio co_X1_becomeRatio mo_X1_becomeRatio (by decide), List.forall_mem_cons.mpr ⟨cok_V ct_X1_half (by decide) rfl ml_X8_194 im_X1_half se_X1_half co_X1_half mo_X1_half (by decide), fun _ h => absurd h List.not_mem_nil⟩⟩⟩⟩ bd_X8_mean
def sp_X2_add : Spc := fun as N lg it rf K => match as with | [.ref q, .int a, .int b] => (N = NT ∧ rf = RF0 ∧ (q = 19 ∨ q = 22 ∨ q = 25) ∧ it q 2 = 0) ∧ ∀ lg' it', Kp lg lg' → Kp it it' → K (some (.int 1)) lg' it' rf | _ => False
def T_X2_add : Tab := (FL_X2, CL_X2, JL_X2, [], 99, (some .int))
def rm_X2_add : Room := { frames := 0, cells := 0, slots := 0, locals := 0 }
set_option maxRecDepth 100000 in
theorem bd_X2_add (as : List Value) (N : Nat) (lg : LGt) (it : ITt) (rf : RFt) (Q : Post) (h : sp_X2_add as N lg it rf Q) : Bd T_X2_add cX2_add 3 0 as N lg it rf Q := by
  unfold sp_X2_add at h
  split at h
  · rename_i q a b
    refine ⟨Nat.le_of_ble_eq_true rfl, fun P hs hw => ?_⟩
    obtain ⟨⟨rfl, rfl, ha, hb⟩, hk⟩ := h
    rcases ha with rfl | rfl | rfl
    · skip
      refine hs dX2_add_0 (hs dX2_add_1 (And.intro (ob_19) (gx (v := 0) (by simp [u2, sL, sI, mx, zr, hb]) (hs dX2_add_4 (hs dX2_add_5 (And.intro (ob_19) (gr (r_19_0) (hs dX2_add_8 (And.intro (ol_20) (hs dX2_add_9 (And.intro (fun c9 => ?_) (fun c9 => absurd (by decide) c9))))))))))))
      refine hs dX2_add_15 (hs dX2_add_16 (And.intro (ob_19) (gr (r_19_0) (hs dX2_add_19 (hs dX2_add_20 (And.intro (ob_19) (gx (v := 0) (by simp [u2, sL, sI, mx, zr, hb]) (hs dX2_add_23 (hs dX2_add_24 (And.intro (ob_20) (And.intro (vin ln_20 (by decide)) (hs dX2_add_25 (hs dX2_add_26 (And.intro (ob_19) (gr (r_19_1) (hs dX2_add_29 (hs dX2_add_30 (And.intro (ob_19) (gx (v := 0) (by simp [u2, sL, sI, mx, zr, hb]) (hs dX2_add_33 (hs dX2_add_34 (And.intro (ob_21) (And.intro (vin ln_21 (by decide)) (hs dX2_add_35 (hs dX2_add_36 (hs dX2_add_37 (And.intro (ob_19) (gx (v := 0) (by simp [u2, sL, sI, mx, zr, hb]) (hs dX2_add_40 (hs dX2_add_41 (hs dX2_add_42 (And.intro (ob_19) (hs dX2_add_45 (hs dX2_add_46 (And.intro (ob_19) (gx (v := 1) (by simp [u2, sL, sI, mx, zr, kb_m4, ki_1]) (hs dX2_add_49 (And.intro (rfl) (And.intro rfl ?_)))))))))))))))))))))))))))))))))))))))
      exact hk _ _ (by repeat (first | exact Kp_0 | assumption | refine Kp_u ?_ (by omega) | refine Kp_sL ?_ (by omega) | refine Kp_sI ?_ (by omega))) (by repeat (first | exact Kp_0 | assumption | refine Kp_u ?_ (by omega) | refine Kp_sL ?_ (by omega) | refine Kp_sI ?_ (by omega)))
    · skip
      refine hs dX2_add_0 (hs dX2_add_1 (And.intro (ob_22) (gx (v := 0) (by simp [u2, sL, sI, mx, zr, hb]) (hs dX2_add_4 (hs dX2_add_5 (And.intro (ob_22) (gr (r_22_0) (hs dX2_add_8 (And.intro (ol_23) (hs dX2_add_9 (And.intro (fun c9 => ?_) (fun c9 => absurd (by decide) c9))))))))))))
      refine hs dX2_add_15 (hs dX2_add_16 (And.intro (ob_22) (gr (r_22_0) (hs dX2_add_19 (hs dX2_add_20 (And.intro (ob_22) (gx (v := 0) (by simp [u2, sL, sI, mx, zr, hb]) (hs dX2_add_23 (hs dX2_add_24 (And.intro (ob_23) (And.intro (vin ln_23 (by decide)) (hs dX2_add_25 (hs dX2_add_26 (And.intro (ob_22) (gr (r_22_1) (hs dX2_add_29 (hs dX2_add_30 (And.intro (ob_22) (gx (v := 0) (by simp [u2, sL, sI, mx, zr, hb]) (hs dX2_add_33 (hs dX2_add_34 (And.intro (ob_24) (And.intro (vin ln_24 (by decide)) (hs dX2_add_35 (hs dX2_add_36 (hs dX2_add_37 (And.intro (ob_22) (gx (v := 0) (by simp [u2, sL, sI, mx, zr, hb]) (hs dX2_add_40 (hs dX2_add_41 (hs dX2_add_42 (And.intro (ob_22) (hs dX2_add_45 (hs dX2_add_46 (And.intro (ob_22) (gx (v := 1) (by simp [u2, sL, sI, mx, zr, kb_m4, ki_1]) (hs dX2_add_49 (And.intro (rfl) (And.intro rfl ?_)))))))))))))))))))))))))))))))))))))))
      exact hk _ _ (by repeat (first | exact Kp_0 | assumption | refine Kp_u ?_ (by omega) | refine Kp_sL ?_ (by omega) | refine Kp_sI ?_ (by omega))) (by repeat (first | exact Kp_0 | assumption | refine Kp_u ?_ (by omega) | refine Kp_sL ?_ (by omega) | refine Kp_sI ?_ (by omega)))
    · skip
      refine hs dX2_add_0 (hs dX2_add_1 (And.intro (ob_25) (gx (v := 0) (by simp [u2, sL, sI, mx, zr, hb]) (hs dX2_add_4 (hs dX2_add_5 (And.intro (ob_25) (gr (r_25_0) (hs dX2_add_8 (And.intro (ol_26) (hs dX2_add_9 (And.intro (fun c9 => ?_) (fun c9 => absurd (by decide) c9))))))))))))
      refine hs dX2_add_15 (hs dX2_add_16 (And.intro (ob_25) (gr (r_25_0) (hs dX2_add_19 (hs dX2_add_20 (And.intro (ob_25) (gx (v := 0) (by simp [u2, sL, sI, mx, zr, hb]) (hs dX2_add_23 (hs dX2_add_24 (And.intro (ob_26) (And.intro (vin ln_26 (by decide)) (hs dX2_add_25 (hs dX2_add_26 (And.intro (ob_25) (gr (r_25_1) (hs dX2_add_29 (hs dX2_add_30 (And.intro (ob_25) (gx (v := 0) (by simp [u2, sL, sI, mx, zr, hb]) (hs dX2_add_33 (hs dX2_add_34 (And.intro (ob_27) (And.intro (vin ln_27 (by decide)) (hs dX2_add_35 (hs dX2_add_36 (hs dX2_add_37 (And.intro (ob_25) (gx (v := 0) (by simp [u2, sL, sI, mx, zr, hb]) (hs dX2_add_40 (hs dX2_add_41 (hs dX2_add_42 (And.intro (ob_25) (hs dX2_add_45 (hs dX2_add_46 (And.intro (ob_25) (gx (v := 1) (by simp [u2, sL, sI, mx, zr, kb_m4, ki_1]) (hs dX2_add_49 (And.intro (rfl) (And.intro rfl ?_)))))))))))))))))))))))))))))))))))))))
      exact hk _ _ (by repeat (first | exact Kp_0 | assumption | refine Kp_u ?_ (by omega) | refine Kp_sL ?_ (by omega) | refine Kp_sI ?_ (by omega))) (by repeat (first | exact Kp_0 | assumption | refine Kp_u ?_ (by omega) | refine Kp_sL ?_ (by omega) | refine Kp_sI ?_ (by omega)))
  · exact h.elim
theorem ct_X2_add {E : Ev} {l : Launch} : CT E l yX2_add (wsY yX2_add cX2_add 3 (some .int)) rm_X2_add 0 sp_X2_add := ct_of (T := T_X2_add) (own := RX2) (by decide) rfl (fun ci h10 hc => by have h2 : (99 : Nat) = ci := Nat.eq_of_beq_eq_true hc; omega) ⟨rfl, rfl⟩ ⟨fok_X2, clok_X2, jok_X2, fun _ h => absurd h List.not_mem_nil⟩ bd_X2_add
def sp_X8_addStrike : Spc := fun as N lg it rf K => match as with | [.ref q, .int a, .int b] => (N = NT ∧ rf = RF0 ∧ (q = 19 ∨ q = 25) ∧ it q 2 = 0) ∧ ∀ lg' it', Kp lg lg' → Kp it it' → K (some (.int (an_see a b))) lg' it' rf | _ => False
def T_X8_addStrike : Tab := (FL_X8, CL_X8, JL_X8, [(310, 1, 1, 0, 0, sp_X8_isWhere), (252, 0, 3, 2, 0, sp_X2_add)], 99, (some .int))
def rm_X8_addStrike : Room := { frames := 1, cells := 0, slots := 0, locals := 22 }
set_option maxRecDepth 100000 in
theorem bd_X8_addStrike (as : List Value) (N : Nat) (lg : LGt) (it : ITt) (rf : RFt) (Q : Post) (h : sp_X8_addStrike as N lg it rf Q) : Bd T_X8_addStrike cX8_addStrike 3 0 as N lg it rf Q := by
  unfold sp_X8_addStrike at h
  split at h
  · rename_i q a b
    refine ⟨Nat.le_of_ble_eq_true rfl, fun P hs hw => ?_⟩
    obtain ⟨⟨rfl, rfl, ha, hb⟩, hk⟩ := h
    rcases ha with rfl | rfl
    · skip
      refine hs dX8_addStrike_0 (hs dX8_addStrike_1 (hs dX8_addStrike_2 (And.intro (fun c2 => ?_) (fun c2 => ?_))))
      · try dsimp only at c2
        try simp only [kb_20, ki_m1, ki_0] at c2
        refine hs dX8_addStrike_12 (hs dX8_addStrike_13 (And.intro (fun c13 => ?_) (fun c13 => ?_)))
        · try dsimp only at c13
          try simp only [kb_20, ki_m1, ki_0] at c13
          refine hs dX8_addStrike_29 (hs dX8_addStrike_30 (And.intro (rfl) (And.intro rfl ?_)))
          try simp only [kb_20, ki_m1, ki_0, b2_0, b2_1] at c2 c13
          try simp only [Int32.lt_iff_toInt_lt, Int32.le_iff_toInt_le, ← Int32.toInt_inj, ti_m1, ti_0, ti_20] at c2 c13
          have e : an_see a b = (-1) := by unfold an_see; repeat (first | rw [if_pos (by omega)] | rw [if_neg (by omega)])
          rw [e] at hk
          exact hk _ _ (by repeat (first | exact Kp_0 | assumption | refine Kp_u ?_ (by omega) | refine Kp_sL ?_ (by omega) | refine Kp_sI ?_ (by omega))) (by repeat (first | exact Kp_0 | assumption | refine Kp_u ?_ (by omega) | refine Kp_sL ?_ (by omega) | refine Kp_sI ?_ (by omega)))
        · try dsimp only at c13
          try simp only [kb_20, ki_m1, ki_0] at c13
          refine hs dX8_addStrike_16 (hs dX8_addStrike_17 (hs dX8_addStrike_19 (And.intro (fun c19 => ?_) (fun c19 => ?_))))
          · try dsimp only at c19
            try simp only [kb_20, ki_m1, ki_0] at c19
            refine hs dX8_addStrike_29 (hs dX8_addStrike_30 (And.intro (rfl) (And.intro rfl ?_)))
            try simp only [kb_20, ki_m1, ki_0, b2_0, b2_1] at c2 c13 c19
            try simp only [Int32.lt_iff_toInt_lt, Int32.le_iff_toInt_le, ← Int32.toInt_inj, ti_m1, ti_0, ti_20] at c2 c13 c19
            have e : an_see a b = (-1) := by unfold an_see; repeat (first | rw [if_pos (by omega)] | rw [if_neg (by omega)])
            rw [e] at hk
            exact hk _ _ (by repeat (first | exact Kp_0 | assumption | refine Kp_u ?_ (by omega) | refine Kp_sL ?_ (by omega) | refine Kp_sI ?_ (by omega))) (by repeat (first | exact Kp_0 | assumption | refine Kp_u ?_ (by omega) | refine Kp_sL ?_ (by omega) | refine Kp_sI ?_ (by omega)))
          · try dsimp only at c19
            try simp only [kb_20, ki_m1, ki_0] at c19
            refine hs dX8_addStrike_22 (hs dX8_addStrike_23 (And.intro (trivial) (n0 (hs dX8_addStrike_26 (And.intro (fun c26 => ?_) (fun c26 => ?_))))))
            · try dsimp only at c26
              try simp only [kb_20, ki_m1, ki_0] at c26
              refine hs dX8_addStrike_31 (hs dX8_addStrike_32 (hs dX8_addStrike_33 (hs dX8_addStrike_34 (And.intro (ob_19) (And.intro ⟨rfl, rfl, by decide, by simp [u2, sL, sI, mx, zr, hb]⟩ (fun lg1 it1 hK1 hL1 => n0 ?_) )))))
              refine hs dX8_addStrike_37 (And.intro (rfl) (And.intro rfl ?_))
              try simp only [kb_20, ki_m1, ki_0, b2_0, b2_1] at c2 c13 c19 c26
              try simp only [Int32.lt_iff_toInt_lt, Int32.le_iff_toInt_le, ← Int32.toInt_inj, ti_m1, ti_0, ti_20] at c2 c13 c19 c26
              have e : an_see a b = 1 := by unfold an_see; repeat (first | rw [if_pos (by omega)] | rw [if_neg (by omega)])
              rw [e] at hk
              exact hk _ _ (by repeat (first | exact Kp_0 | assumption | refine Kp_u ?_ (by omega) | refine Kp_sL ?_ (by omega) | refine Kp_sI ?_ (by omega))) (by repeat (first | exact Kp_0 | assumption | refine Kp_u ?_ (by omega) | refine Kp_sL ?_ (by omega) | refine Kp_sI ?_ (by omega)))
            · try dsimp only at c26
              try simp only [kb_20, ki_m1, ki_0] at c26
              refine hs dX8_addStrike_29 (hs dX8_addStrike_30 (And.intro (rfl) (And.intro rfl ?_)))
              try simp only [kb_20, ki_m1, ki_0, b2_0, b2_1] at c2 c13 c19 c26
              try simp only [Int32.lt_iff_toInt_lt, Int32.le_iff_toInt_le, ← Int32.toInt_inj, ti_m1, ti_0, ti_20] at c2 c13 c19 c26
              have e : an_see a b = (-1) := by unfold an_see; repeat (first | rw [if_pos (by omega)] | rw [if_neg (by omega)])
              rw [e] at hk
              exact hk _ _ (by repeat (first | exact Kp_0 | assumption | refine Kp_u ?_ (by omega) | refine Kp_sL ?_ (by omega) | refine Kp_sI ?_ (by omega))) (by repeat (first | exact Kp_0 | assumption | refine Kp_u ?_ (by omega) | refine Kp_sL ?_ (by omega) | refine Kp_sI ?_ (by omega)))
      · try dsimp only at c2
        try simp only [kb_20, ki_m1, ki_0] at c2
        refine hs dX8_addStrike_5 (hs dX8_addStrike_6 (hs dX8_addStrike_7 (And.intro (ob_19) (hs dX8_addStrike_10 (hs dX8_addStrike_11 (And.intro (rfl) (And.intro rfl ?_)))))))
        try simp only [kb_20, ki_m1, ki_0, b2_0, b2_1] at c2
        try simp only [Int32.lt_iff_toInt_lt, Int32.le_iff_toInt_le, ← Int32.toInt_inj, ti_m1, ti_0, ti_20] at c2
        have e : an_see a b = 0 := by unfold an_see; repeat (first | rw [if_pos (by omega)] | rw [if_neg (by omega)])
        rw [e] at hk
        exact hk _ _ (by repeat (first | exact Kp_0 | assumption | refine Kp_u ?_ (by omega) | refine Kp_sL ?_ (by omega) | refine Kp_sI ?_ (by omega))) (by repeat (first | exact Kp_0 | assumption | refine Kp_u ?_ (by omega) | refine Kp_sL ?_ (by omega) | refine Kp_sI ?_ (by omega)))
    · skip
      refine hs dX8_addStrike_0 (hs dX8_addStrike_1 (hs dX8_addStrike_2 (And.intro (fun c2 => ?_) (fun c2 => ?_))))
      · try dsimp only at c2
        try simp only [kb_20, ki_m1, ki_0] at c2
        refine hs dX8_addStrike_12 (hs dX8_addStrike_13 (And.intro (fun c13 => ?_) (fun c13 => ?_)))
        · try dsimp only at c13
          try simp only [kb_20, ki_m1, ki_0] at c13
          refine hs dX8_addStrike_29 (hs dX8_addStrike_30 (And.intro (rfl) (And.intro rfl ?_)))
          try simp only [kb_20, ki_m1, ki_0, b2_0, b2_1] at c2 c13
          try simp only [Int32.lt_iff_toInt_lt, Int32.le_iff_toInt_le, ← Int32.toInt_inj, ti_m1, ti_0, ti_20] at c2 c13
          have e : an_see a b = (-1) := by unfold an_see; repeat (first | rw [if_pos (by omega)] | rw [if_neg (by omega)])
          rw [e] at hk
          exact hk _ _ (by repeat (first | exact Kp_0 | assumption | refine Kp_u ?_ (by omega) | refine Kp_sL ?_ (by omega) | refine Kp_sI ?_ (by omega))) (by repeat (first | exact Kp_0 | assumption | refine Kp_u ?_ (by omega) | refine Kp_sL ?_ (by omega) | refine Kp_sI ?_ (by omega)))
        · try dsimp only at c13
          try simp only [kb_20, ki_m1, ki_0] at c13
          refine hs dX8_addStrike_16 (hs dX8_addStrike_17 (hs dX8_addStrike_19 (And.intro (fun c19 => ?_) (fun c19 => ?_))))
          · try dsimp only at c19
            try simp only [kb_20, ki_m1, ki_0] at c19
            refine hs dX8_addStrike_29 (hs dX8_addStrike_30 (And.intro (rfl) (And.intro rfl ?_)))
            try simp only [kb_20, ki_m1, ki_0, b2_0, b2_1] at c2 c13 c19
            try simp only [Int32.lt_iff_toInt_lt, Int32.le_iff_toInt_le, ← Int32.toInt_inj, ti_m1, ti_0, ti_20] at c2 c13 c19
            have e : an_see a b = (-1) := by unfold an_see; repeat (first | rw [if_pos (by omega)] | rw [if_neg (by omega)])
            rw [e] at hk
            exact hk _ _ (by repeat (first | exact Kp_0 | assumption | refine Kp_u ?_ (by omega) | refine Kp_sL ?_ (by omega) | refine Kp_sI ?_ (by omega))) (by repeat (first | exact Kp_0 | assumption | refine Kp_u ?_ (by omega) | refine Kp_sL ?_ (by omega) | refine Kp_sI ?_ (by omega)))
          · try dsimp only at c19
            try simp only [kb_20, ki_m1, ki_0] at c19
            refine hs dX8_addStrike_22 (hs dX8_addStrike_23 (And.intro (trivial) (n0 (hs dX8_addStrike_26 (And.intro (fun c26 => ?_) (fun c26 => ?_))))))
            · try dsimp only at c26
              try simp only [kb_20, ki_m1, ki_0] at c26
              refine hs dX8_addStrike_31 (hs dX8_addStrike_32 (hs dX8_addStrike_33 (hs dX8_addStrike_34 (And.intro (ob_25) (And.intro ⟨rfl, rfl, by decide, by simp [u2, sL, sI, mx, zr, hb]⟩ (fun lg2 it2 hK2 hL2 => n0 ?_) )))))
              refine hs dX8_addStrike_37 (And.intro (rfl) (And.intro rfl ?_))
              try simp only [kb_20, ki_m1, ki_0, b2_0, b2_1] at c2 c13 c19 c26
              try simp only [Int32.lt_iff_toInt_lt, Int32.le_iff_toInt_le, ← Int32.toInt_inj, ti_m1, ti_0, ti_20] at c2 c13 c19 c26
              have e : an_see a b = 1 := by unfold an_see; repeat (first | rw [if_pos (by omega)] | rw [if_neg (by omega)])
              rw [e] at hk
              exact hk _ _ (by repeat (first | exact Kp_0 | assumption | refine Kp_u ?_ (by omega) | refine Kp_sL ?_ (by omega) | refine Kp_sI ?_ (by omega))) (by repeat (first | exact Kp_0 | assumption | refine Kp_u ?_ (by omega) | refine Kp_sL ?_ (by omega) | refine Kp_sI ?_ (by omega)))
            · try dsimp only at c26
              try simp only [kb_20, ki_m1, ki_0] at c26
              refine hs dX8_addStrike_29 (hs dX8_addStrike_30 (And.intro (rfl) (And.intro rfl ?_)))
              try simp only [kb_20, ki_m1, ki_0, b2_0, b2_1] at c2 c13 c19 c26
              try simp only [Int32.lt_iff_toInt_lt, Int32.le_iff_toInt_le, ← Int32.toInt_inj, ti_m1, ti_0, ti_20] at c2 c13 c19 c26
              have e : an_see a b = (-1) := by unfold an_see; repeat (first | rw [if_pos (by omega)] | rw [if_neg (by omega)])
              rw [e] at hk
              exact hk _ _ (by repeat (first | exact Kp_0 | assumption | refine Kp_u ?_ (by omega) | refine Kp_sL ?_ (by omega) | refine Kp_sI ?_ (by omega))) (by repeat (first | exact Kp_0 | assumption | refine Kp_u ?_ (by omega) | refine Kp_sL ?_ (by omega) | refine Kp_sI ?_ (by omega)))
      · try dsimp only at c2
        try simp only [kb_20, ki_m1, ki_0] at c2
        refine hs dX8_addStrike_5 (hs dX8_addStrike_6 (hs dX8_addStrike_7 (And.intro (ob_25) (hs dX8_addStrike_10 (hs dX8_addStrike_11 (And.intro (rfl) (And.intro rfl ?_)))))))
        try simp only [kb_20, ki_m1, ki_0, b2_0, b2_1] at c2
        try simp only [Int32.lt_iff_toInt_lt, Int32.le_iff_toInt_le, ← Int32.toInt_inj, ti_m1, ti_0, ti_20] at c2
        have e : an_see a b = 0 := by unfold an_see; repeat (first | rw [if_pos (by omega)] | rw [if_neg (by omega)])
        rw [e] at hk
        exact hk _ _ (by repeat (first | exact Kp_0 | assumption | refine Kp_u ?_ (by omega) | refine Kp_sL ?_ (by omega) | refine Kp_sI ?_ (by omega))) (by repeat (first | exact Kp_0 | assumption | refine Kp_u ?_ (by omega) | refine Kp_sL ?_ (by omega) | refine Kp_sI ?_ (by omega)))
  · exact h.elim
theorem ct_X8_addStrike {E : Ev} {l : Launch} : CT E l yX8_addStrike (wsY yX8_addStrike cX8_addStrike 3 (some .int)) rm_X8_addStrike 0 sp_X8_addStrike := ct_of (T := T_X8_addStrike) (own := RX8) (by decide) rfl (fun ci h10 hc => by have h2 : (99 : Nat) = ci := Nat.eq_of_beq_eq_true hc; omega) ⟨rfl, rfl⟩ ⟨fok_X8, clok_X8, jok_X8, List.forall_mem_cons.mpr ⟨cok_S ct_X8_isWhere ((cl_ins (c := 8) (by decide)).2) ml_X8_310 im_X8_isWhere co_X8_isWhere mo_X8_isWhere (by decide), List.forall_mem_cons.mpr ⟨cok_V ct_X2_add (by decide) rfl ml_X8_252 im_X2_add se_X2_add co_X2_add mo_X2_add (by decide), fun _ h => absurd h List.not_mem_nil⟩⟩⟩ bd_X8_addStrike
def sp_X8_see : Spc := fun as N lg it rf K => match as with | [.ref 0, .int a, .int b] => (N = NT ∧ lg = LG0 ∧ it = IT0 ∧ rf = RF0) ∧ ∀ lg' it', Up lg' it' → K (some (.int (an_see a b))) lg' it' RF0 | _ => False
def T_X8_see : Tab := (FL_X8, CL_X8, JL_X8, [(226, 1, 3, 0, 0, sp_X8_addStrike)], 99, (some .int))
def rm_X8_see : Room := { frames := 2, cells := 0, slots := 0, locals := 44 }
set_option maxRecDepth 100000 in
theorem bd_X8_see (as : List Value) (N : Nat) (lg : LGt) (it : ITt) (rf : RFt) (Q : Post) (h : sp_X8_see as N lg it rf Q) : Bd T_X8_see cX8_see 3 0 as N lg it rf Q := by
  unfold sp_X8_see at h
  split at h
  · rename_i a b
    refine ⟨Nat.le_of_ble_eq_true rfl, fun P hs hw => ?_⟩
    obtain ⟨⟨rfl, rfl, rfl, rfl⟩, hk⟩ := h
    refine hs dX8_see_0 (hs dX8_see_1 (And.intro (ob_0) (gr (r_0_0) (hs dX8_see_4 (And.intro (ob_1) (gr (r_1_1) (hs dX8_see_7 (hs dX8_see_8 (hs dX8_see_9 (And.intro (trivial) (And.intro ⟨rfl, rfl, by decide, vit_19_2⟩ (fun lg3 it3 hK3 hL3 => n0 ?_) )))))))))))
    refine hs dX8_see_12 (And.intro (rfl) (And.intro rfl ?_))
    exact hk _ _ (by repeat (first | exact Up_0 | assumption | refine Up_k ?_ (by assumption) (by assumption) | refine Up_u ?_ (by omega) | refine Up_sL ?_ (by omega) | refine Up_sI ?_ (by omega) | refine Up_l ?_ (by omega)))
  · exact h.elim
theorem ct_X8_see {E : Ev} {l : Launch} : CT E l yX8_see (wsY yX8_see cX8_see 3 (some .int)) rm_X8_see 0 sp_X8_see := ct_of (T := T_X8_see) (own := RX8) (by decide) rfl (fun ci h10 hc => by have h2 : (99 : Nat) = ci := Nat.eq_of_beq_eq_true hc; omega) ⟨rfl, rfl⟩ ⟨fok_X8, clok_X8, jok_X8, List.forall_mem_cons.mpr ⟨cok_S ct_X8_addStrike ((cl_ins (c := 8) (by decide)).2) ml_X8_226 im_X8_addStrike co_X8_addStrike mo_X8_addStrike (by decide), fun _ h => absurd h List.not_mem_nil⟩⟩ bd_X8_see
def sp_X8_book : Spc := fun as N lg it rf K => match as with | [.ref 0, .int a, .int b] => (N = NT ∧ lg = LG0 ∧ it = IT0 ∧ rf = RF0) ∧ ∀ lg' it', Up lg' it' → K (some (.int (an_book a b))) lg' it' RF0 | _ => False
def T_X8_book : Tab := (FL_X8, CL_X8, JL_X8, [(226, 1, 3, 0, 0, sp_X8_addStrike)], 99, (some .int))
def rm_X8_book : Room := { frames := 2, cells := 0, slots := 0, locals := 44 }
set_option maxRecDepth 100000 in
theorem bd_X8_book (as : List Value) (N : Nat) (lg : LGt) (it : ITt) (rf : RFt) (Q : Post) (h : sp_X8_book as N lg it rf Q) : Bd T_X8_book cX8_book 3 0 as N lg it rf Q := by
  unfold sp_X8_book at h
  split at h
  · rename_i a b
    refine ⟨Nat.le_of_ble_eq_true rfl, fun P hs hw => ?_⟩
    obtain ⟨⟨rfl, rfl, rfl, rfl⟩, hk⟩ := h
    refine hs dX8_book_0 (hs dX8_book_1 (And.intro (ob_0) (gr (r_0_0) (hs dX8_book_4 (And.intro (ob_1) (gr (r_1_3) (hs dX8_book_7 (hs dX8_book_8 (hs dX8_book_9 (And.intro (trivial) (And.intro ⟨rfl, rfl, by decide, vit_25_2⟩ (fun lg4 it4 hK4 hL4 => n0 ?_) )))))))))))
    refine hs dX8_book_12 (And.intro (rfl) (And.intro rfl ?_))
    exact hk _ _ (by repeat (first | exact Up_0 | assumption | refine Up_k ?_ (by assumption) (by assumption) | refine Up_u ?_ (by omega) | refine Up_sL ?_ (by omega) | refine Up_sI ?_ (by omega) | refine Up_l ?_ (by omega)))
  · exact h.elim
theorem ct_X8_book {E : Ev} {l : Launch} : CT E l yX8_book (wsY yX8_book cX8_book 3 (some .int)) rm_X8_book 0 sp_X8_book := ct_of (T := T_X8_book) (own := RX8) (by decide) rfl (fun ci h10 hc => by have h2 : (99 : Nat) = ci := Nat.eq_of_beq_eq_true hc; omega) ⟨rfl, rfl⟩ ⟨fok_X8, clok_X8, jok_X8, List.forall_mem_cons.mpr ⟨cok_S ct_X8_addStrike ((cl_ins (c := 8) (by decide)).2) ml_X8_226 im_X8_addStrike co_X8_addStrike mo_X8_addStrike (by decide), fun _ h => absurd h List.not_mem_nil⟩⟩ bd_X8_book
def sp_X8_undo : Spc := fun as N lg it rf K => match as with | [.ref 0] => (N = NT ∧ lg = LG0 ∧ it = IT0 ∧ rf = RF0) ∧ ∀ lg' it', Up lg' it' → K (some (.int (an_undo))) lg' it' RF0 | _ => False
def T_X8_undo : Tab := (FL_X8, CL_X8, JL_X8, [], 99, (some .int))
def rm_X8_undo : Room := { frames := 0, cells := 0, slots := 0, locals := 0 }
set_option maxRecDepth 100000 in
theorem bd_X8_undo (as : List Value) (N : Nat) (lg : LGt) (it : ITt) (rf : RFt) (Q : Post) (h : sp_X8_undo as N lg it rf Q) : Bd T_X8_undo cX8_undo 1 0 as N lg it rf Q := by
  unfold sp_X8_undo at h
  split at h
  · refine ⟨Nat.le_of_ble_eq_true rfl, fun P hs hw => ?_⟩
    obtain ⟨⟨rfl, rfl, rfl, rfl⟩, hk⟩ := h
    refine hs dX8_undo_0 (hs dX8_undo_1 (And.intro (ob_0) (gx (v := 0) (vit_0_2) (hs dX8_undo_4 (And.intro (fun c4 => absurd rfl c4) (fun c4 => (hs dX8_undo_7 (hs dX8_undo_9 (And.intro (rfl) (And.intro rfl ?_))))))))))
    have e : an_undo = (-3) := rfl
    rw [e] at hk
    exact hk _ _ (by repeat (first | exact Up_0 | assumption | refine Up_k ?_ (by assumption) (by assumption) | refine Up_u ?_ (by omega) | refine Up_sL ?_ (by omega) | refine Up_sI ?_ (by omega) | refine Up_l ?_ (by omega)))
  · exact h.elim
theorem ct_X8_undo {E : Ev} {l : Launch} : CT E l yX8_undo (wsY yX8_undo cX8_undo 1 (some .int)) rm_X8_undo 0 sp_X8_undo := ct_of (T := T_X8_undo) (own := RX8) (by decide) rfl (fun ci h10 hc => by have h2 : (99 : Nat) = ci := Nat.eq_of_beq_eq_true hc; omega) ⟨rfl, rfl⟩ ⟨fok_X8, clok_X8, jok_X8, fun _ h => absurd h List.not_mem_nil⟩ bd_X8_undo
def sp_X8_count : Spc := fun as N lg it rf K => match as with | [.ref 0, .int a] => (N = NT ∧ lg = LG0 ∧ it = IT0 ∧ rf = RF0) ∧ ∀ lg' it', Up lg' it' → K (some (.int (an_count a))) lg' it' RF0 | _ => False
def T_X8_count : Tab := (FL_X8, CL_X8, JL_X8, [], 99, (some .int))
def rm_X8_count : Room := { frames := 0, cells := 0, slots := 0, locals := 0 }
set_option maxRecDepth 100000 in
theorem bd_X8_count (as : List Value) (N : Nat) (lg : LGt) (it : ITt) (rf : RFt) (Q : Post) (h : sp_X8_count as N lg it rf Q) : Bd T_X8_count cX8_count 2 0 as N lg it rf Q := by
  unfold sp_X8_count at h
  split at h
  · rename_i a
    refine ⟨Nat.le_of_ble_eq_true rfl, fun P hs hw => ?_⟩
    obtain ⟨⟨rfl, rfl, rfl, rfl⟩, hk⟩ := h
    refine hs dX8_count_0 (hw dX8_count_1 (And.intro (fun c1 => ?_) (And.intro (fun c1 => ?_) (And.intro (fun c1 => ?_) (And.intro (fun c1 => ?_) (And.intro (fun c1 => ?_) trivial))))))
    · try simp only [kb_m2] at c1
      refine hs dX8_count_73 (hs dX8_count_75 (And.intro (rfl) (And.intro rfl ?_)))
      try simp only [kb_m2, b2_0, b2_1] at c1
      try simp only [Int32.lt_iff_toInt_lt, Int32.le_iff_toInt_le, ← Int32.toInt_inj, ti_m2, ti_0] at c1
      have e : an_count a = (-2) := by
        first
        | (exfalso; omega)
        | unfold an_count
          try simp only [ti_0, ti_1]
          repeat (first | rw [if_pos (by first | omega | simp)] | rw [if_neg (by omega)])
          all_goals rfl
      rw [e] at hk
      exact hk _ _ (by repeat (first | exact Up_0 | assumption | refine Up_k ?_ (by assumption) (by assumption) | refine Up_u ?_ (by omega) | refine Up_sL ?_ (by omega) | refine Up_sI ?_ (by omega) | refine Up_l ?_ (by omega)))
    · try simp only [kb_m2] at c1
      refine hs dX8_count_32 (hs dX8_count_33 (And.intro (ob_0) (gr (r_0_0) (hs dX8_count_36 (And.intro (ob_1) (gr (r_1_1) (hs dX8_count_39 (And.intro (ob_19) (gx (v := 0) (vit_19_2) (hs dX8_count_42 (And.intro (rfl) (And.intro rfl ?_))))))))))))
      try simp only [kb_m2, b2_0, b2_1] at c1
      try simp only [Int32.lt_iff_toInt_lt, Int32.le_iff_toInt_le, ← Int32.toInt_inj, ti_m2, ti_0] at c1
      have e : an_count a = 0 := by
        first
        | (exfalso; omega)
        | unfold an_count
          try simp only [ti_0, ti_1]
          repeat (first | rw [if_pos (by first | omega | simp)] | rw [if_neg (by omega)])
          all_goals rfl
      rw [e] at hk
      exact hk _ _ (by repeat (first | exact Up_0 | assumption | refine Up_k ?_ (by assumption) (by assumption) | refine Up_u ?_ (by omega) | refine Up_sL ?_ (by omega) | refine Up_sI ?_ (by omega) | refine Up_l ?_ (by omega)))
    · try simp only [kb_m2] at c1
      refine hs dX8_count_43 (hs dX8_count_44 (And.intro (ob_0) (gr (r_0_0) (hs dX8_count_47 (And.intro (ob_1) (gr (r_1_2) (hs dX8_count_50 (And.intro (ob_22) (gx (v := 0) (vit_22_2) (hs dX8_count_53 (And.intro (rfl) (And.intro rfl ?_))))))))))))
      try simp only [kb_m2, b2_0, b2_1] at c1
      try simp only [Int32.lt_iff_toInt_lt, Int32.le_iff_toInt_le, ← Int32.toInt_inj, ti_m2, ti_0] at c1
      have e : an_count a = 0 := by
        first
        | (exfalso; omega)
        | unfold an_count
          try simp only [ti_0, ti_1]
          repeat (first | rw [if_pos (by first | omega | simp)] | rw [if_neg (by omega)])
          all_goals rfl
      rw [e] at hk
      exact hk _ _ (by repeat (first | exact Up_0 | assumption | refine Up_k ?_ (by assumption) (by assumption) | refine Up_u ?_ (by omega) | refine Up_sL ?_ (by omega) | refine Up_sI ?_ (by omega) | refine Up_l ?_ (by omega)))
    · try simp only [kb_m2] at c1
      refine hs dX8_count_54 (hs dX8_count_55 (And.intro (ob_0) (gr (r_0_0) (hs dX8_count_58 (And.intro (ob_1) (gr (r_1_3) (hs dX8_count_61 (And.intro (ob_25) (gx (v := 0) (vit_25_2) (hs dX8_count_64 (And.intro (rfl) (And.intro rfl ?_))))))))))))
      try simp only [kb_m2, b2_0, b2_1] at c1
      try simp only [Int32.lt_iff_toInt_lt, Int32.le_iff_toInt_le, ← Int32.toInt_inj, ti_m2, ti_0] at c1
      have e : an_count a = 0 := by
        first
        | (exfalso; omega)
        | unfold an_count
          try simp only [ti_0, ti_1]
          repeat (first | rw [if_pos (by first | omega | simp)] | rw [if_neg (by omega)])
          all_goals rfl
      rw [e] at hk
      exact hk _ _ (by repeat (first | exact Up_0 | assumption | refine Up_k ?_ (by assumption) (by assumption) | refine Up_u ?_ (by omega) | refine Up_sL ?_ (by omega) | refine Up_sI ?_ (by omega) | refine Up_l ?_ (by omega)))
    · try simp only [kb_m2] at c1
      refine hs dX8_count_65 (hs dX8_count_66 (And.intro (ob_0) (gr (r_0_5) (hs dX8_count_69 (And.intro (ob_467) (gx (v := 0) (vit_467_1) (hs dX8_count_72 (And.intro (rfl) (And.intro rfl ?_)))))))))
      try simp only [kb_m2, b2_0, b2_1] at c1
      try simp only [Int32.lt_iff_toInt_lt, Int32.le_iff_toInt_le, ← Int32.toInt_inj, ti_m2, ti_0] at c1
      have e : an_count a = 0 := by
        first
        | (exfalso; omega)
        | unfold an_count
          try simp only [ti_0, ti_1]
          repeat (first | rw [if_pos (by first | omega | simp)] | rw [if_neg (by omega)])
          all_goals rfl
      rw [e] at hk
      exact hk _ _ (by repeat (first | exact Up_0 | assumption | refine Up_k ?_ (by assumption) (by assumption) | refine Up_u ?_ (by omega) | refine Up_sL ?_ (by omega) | refine Up_sI ?_ (by omega) | refine Up_l ?_ (by omega)))
  · exact h.elim
theorem ct_X8_count {E : Ev} {l : Launch} : CT E l yX8_count (wsY yX8_count cX8_count 2 (some .int)) rm_X8_count 0 sp_X8_count := ct_of (T := T_X8_count) (own := RX8) (by decide) rfl (fun ci h10 hc => by have h2 : (99 : Nat) = ci := Nat.eq_of_beq_eq_true hc; omega) ⟨rfl, rfl⟩ ⟨fok_X8, clok_X8, jok_X8, fun _ h => absurd h List.not_mem_nil⟩ bd_X8_count
def sp_X6_renewAs : Spc := fun as N lg it rf K => match as with | [.ref q, .int a, .int b] => (N = NT ∧ rf = RF0 ∧ ∃ t : Nat, t < 6 ∧ q = 474 + 2 * t) ∧ ∀ lg' it', Kp lg lg' → Kp it it' → K none lg' it' rf | _ => False
def T_X6_renewAs : Tab := (FL_X6, CL_X6, JL_X6, [(22, 1, 2, 0, 0, sp_J7_fill_d0a16)], 99, none)
def rm_X6_renewAs : Room := { frames := 1, cells := 0, slots := 0, locals := 24 }
set_option maxRecDepth 100000 in
theorem bd_X6_renewAs (as : List Value) (N : Nat) (lg : LGt) (it : ITt) (rf : RFt) (Q : Post) (h : sp_X6_renewAs as N lg it rf Q) : Bd T_X6_renewAs cX6_renewAs 3 0 as N lg it rf Q := by
  unfold sp_X6_renewAs at h
  split at h
  · rename_i q a b
    refine ⟨Nat.le_of_ble_eq_true rfl, fun P hs hw => ?_⟩
    obtain ⟨⟨rfl, rfl, t, ht, rfl⟩, hk⟩ := h
    refine hs dX6_renewAs_0 (hs dX6_renewAs_1 (hs dX6_renewAs_2 (And.intro ((tpo ht).1) (hs dX6_renewAs_5 (hs dX6_renewAs_6 (hs dX6_renewAs_7 (And.intro ((tpo ht).1) (hs dX6_renewAs_10 (hs dX6_renewAs_11 (And.intro ((tpo ht).1) (gr ((tpr t ht).2.1) (hs dX6_renewAs_14 (hs dX6_renewAs_15 (And.intro (trivial) (And.intro ⟨(tpo ht).2, (show 475 + 2 * t < 489 by omega)⟩ (fun lg1 hK1 => n0 ?_) )))))))))))))))
    refine hs dX6_renewAs_18 (And.intro (rfl) (And.intro rfl ?_))
    exact hk _ _ (by repeat (first | exact Kp_0 | assumption | refine Kp_u ?_ (by omega) | refine Kp_sL ?_ (by omega) | refine Kp_sI ?_ (by omega))) (by repeat (first | exact Kp_0 | assumption | refine Kp_u ?_ (by omega) | refine Kp_sL ?_ (by omega) | refine Kp_sI ?_ (by omega)))
  · exact h.elim
theorem ct_X6_renewAs {E : Ev} {l : Launch} : CT E l yX6_renewAs (wsY yX6_renewAs cX6_renewAs 3 none) rm_X6_renewAs 0 sp_X6_renewAs := ct_of (T := T_X6_renewAs) (own := RX6) (by decide) rfl (fun ci h10 hc => by have h2 : (99 : Nat) = ci := Nat.eq_of_beq_eq_true hc; omega) ⟨rfl, rfl⟩ ⟨fok_X6, clok_X6, jok_X6, List.forall_mem_cons.mpr ⟨cok_S ct_J7_fill_d0a16 (o_ini.2) ml_X6_22 im_J7_fill_d0a16 co_J7_fill_d0a16 mo_J7_fill_d0a16 (by decide), fun _ h => absurd h List.not_mem_nil⟩⟩ bd_X6_renewAs
def sp_X8_item : Spc := fun as N lg it rf K => match as with | [.ref 0, .int a, .int b, .long v] => (N = NT ∧ lg = LG0 ∧ it = IT0 ∧ rf = RF0) ∧ ∀ lg' it', Up lg' it' → K (some (.int (an_item a b))) lg' it' RF0 | _ => False
def T_X8_item : Tab := (FL_X8, CL_X8, JL_X8, [(263, 1, 1, 0, 0, sp_X8_isTape)], 99, (some .int))
def rm_X8_item : Room := { frames := 1, cells := 0, slots := 0, locals := 20 }
set_option maxRecDepth 100000 in
theorem bd_X8_item (as : List Value) (N : Nat) (lg : LGt) (it : ITt) (rf : RFt) (Q : Post) (h : sp_X8_item as N lg it rf Q) : Bd T_X8_item cX8_item 6 0 as N lg it rf Q := by
  unfold sp_X8_item at h
  split at h
  · rename_i a b v
    refine ⟨Nat.le_of_ble_eq_true rfl, fun P hs hw => ?_⟩
    obtain ⟨⟨rfl, rfl, rfl, rfl⟩, hk⟩ := h
    refine hs dX8_item_0 (hs dX8_item_1 (And.intro (trivial) (n0 (hs dX8_item_4 (And.intro (fun c4 => ?_) (fun c4 => ?_))))))
    · try dsimp only at c4
      try simp only [kb_m13, kb_m11, ki_m1, ki_1] at c4
      refine hs dX8_item_9 (hs dX8_item_10 (And.intro (ob_0) (gr (r_0_6) (hs dX8_item_13 ?_))))
      obtain ⟨t, ht, ta⟩ := tpx (nb2 c4).1 (nb2 c4).2
      refine hs dX8_item_14 (And.intro (oa_473) (And.intro (by rw [ta]; exact tpv ht) (grv (by rw [ta]; exact tpa ht) (hs dX8_item_15 (hs dX8_item_17 (hs dX8_item_19 (And.intro ((tpo ht).1) (gx (v := (-1)) ((tpr t ht).2.2.1) (hs dX8_item_22 (hs dX8_item_23 (And.intro (fun c23 => absurd rfl c23) (fun c23 => (hs dX8_item_26 (hs dX8_item_28 (And.intro (rfl) (And.intro rfl ?_))))))))))))))))
      try simp only [kb_m13, kb_m11, ki_m1, ki_1, b2_0, b2_1] at c4
      try simp only [Int32.lt_iff_toInt_lt, Int32.le_iff_toInt_le, ← Int32.toInt_inj, ti_m13, ti_m11, ti_m1, ti_0, ti_1] at c4
      have e : an_item a b = (-11) := by
        first
        | (exfalso; omega)
        | unfold an_item
          try simp only [ti_0, ti_1]
          repeat (first | rw [if_pos (by first | omega | simp)] | rw [if_neg (by omega)])
          all_goals rfl
      rw [e] at hk
      exact hk _ _ (by repeat (first | exact Up_0 | assumption | refine Up_k ?_ (by assumption) (by assumption) | refine Up_u ?_ (by omega) | refine Up_sL ?_ (by omega) | refine Up_sI ?_ (by omega) | refine Up_l ?_ (by omega)))
    · try dsimp only at c4
      try simp only [kb_m13, kb_m11, ki_m1, ki_1] at c4
      refine hs dX8_item_7 (hs dX8_item_8 (And.intro (rfl) (And.intro rfl ?_)))
      try simp only [kb_m13, kb_m11, ki_m1, ki_1, b2_0, b2_1] at c4
      try simp only [Int32.lt_iff_toInt_lt, Int32.le_iff_toInt_le, ← Int32.toInt_inj, ti_m13, ti_m11, ti_m1, ti_0, ti_1] at c4
      have e : an_item a b = (-1) := by
        first
        | (exfalso; omega)
        | unfold an_item
          try simp only [ti_0, ti_1]
          repeat (first | rw [if_pos (by first | omega | simp)] | rw [if_neg (by omega)])
          all_goals rfl
      rw [e] at hk
      exact hk _ _ (by repeat (first | exact Up_0 | assumption | refine Up_k ?_ (by assumption) (by assumption) | refine Up_u ?_ (by omega) | refine Up_sL ?_ (by omega) | refine Up_sI ?_ (by omega) | refine Up_l ?_ (by omega)))
  · exact h.elim
theorem ct_X8_item {E : Ev} {l : Launch} : CT E l yX8_item (wsY yX8_item cX8_item 6 (some .int)) rm_X8_item 0 sp_X8_item := ct_of (T := T_X8_item) (own := RX8) (by decide) rfl (fun ci h10 hc => by have h2 : (99 : Nat) = ci := Nat.eq_of_beq_eq_true hc; omega) ⟨rfl, rfl⟩ ⟨fok_X8, clok_X8, jok_X8, List.forall_mem_cons.mpr ⟨cok_S ct_X8_isTape ((cl_ins (c := 8) (by decide)).2) ml_X8_263 im_X8_isTape co_X8_isTape mo_X8_isTape (by decide), fun _ h => absurd h List.not_mem_nil⟩⟩ bd_X8_item
def sp_X8_peek : Spc := fun as N lg it rf K => match as with | [.ref 0, .int a, .int b] => (N = NT ∧ lg = LG0 ∧ it = IT0 ∧ rf = RF0) ∧ ∀ lg' it', Up lg' it' → K (some (.long (an_peek a b))) lg' it' RF0 | _ => False
def T_X8_peek : Tab := (FL_X8, CL_X8, JL_X8, [(263, 1, 1, 0, 0, sp_X8_isTape)], 99, (some .long))
def rm_X8_peek : Room := { frames := 1, cells := 0, slots := 0, locals := 20 }
set_option maxRecDepth 100000 in
theorem bd_X8_peek (as : List Value) (N : Nat) (lg : LGt) (it : ITt) (rf : RFt) (Q : Post) (h : sp_X8_peek as N lg it rf Q) : Bd T_X8_peek cX8_peek 3 0 as N lg it rf Q := by
  unfold sp_X8_peek at h
  split at h
  · rename_i a b
    refine ⟨Nat.le_of_ble_eq_true rfl, fun P hs hw => ?_⟩
    obtain ⟨⟨rfl, rfl, rfl, rfl⟩, hk⟩ := h
    refine hs dX8_peek_0 (hs dX8_peek_1 (And.intro (trivial) (n0 (hs dX8_peek_4 (And.intro (fun c4 => ?_) (fun c4 => ?_))))))
    · try dsimp only at c4
      try simp only [ki_0] at c4
      refine hs dX8_peek_24 (hs dX8_peek_27 (And.intro (rfl) (And.intro rfl ?_)))
      try simp only [ki_0, b2_0, b2_1] at c4
      try simp only [Int32.lt_iff_toInt_lt, Int32.le_iff_toInt_le, ← Int32.toInt_inj, ti_0] at c4
      have e : an_peek a b = (-9223372036854775808) := rfl
      rw [e] at hk
      exact hk _ _ (by repeat (first | exact Up_0 | assumption | refine Up_k ?_ (by assumption) (by assumption) | refine Up_u ?_ (by omega) | refine Up_sL ?_ (by omega) | refine Up_sI ?_ (by omega) | refine Up_l ?_ (by omega)))
    · try dsimp only at c4
      try simp only [ki_0] at c4
      refine hs dX8_peek_7 (hs dX8_peek_8 (And.intro (fun c8 => ?_) (fun c8 => ?_)))
      · try dsimp only at c8
        try simp only [ki_0] at c8
        refine hs dX8_peek_24 (hs dX8_peek_27 (And.intro (rfl) (And.intro rfl ?_)))
        try simp only [ki_0, b2_0, b2_1] at c4 c8
        try simp only [Int32.lt_iff_toInt_lt, Int32.le_iff_toInt_le, ← Int32.toInt_inj, ti_0] at c4 c8
        have e : an_peek a b = (-9223372036854775808) := rfl
        rw [e] at hk
        exact hk _ _ (by repeat (first | exact Up_0 | assumption | refine Up_k ?_ (by assumption) (by assumption) | refine Up_u ?_ (by omega) | refine Up_sL ?_ (by omega) | refine Up_sI ?_ (by omega) | refine Up_l ?_ (by omega)))
      · try dsimp only at c8
        try simp only [ki_0] at c8
        refine hs dX8_peek_11 (hs dX8_peek_12 (hs dX8_peek_13 (And.intro (ob_0) (gr (r_0_6) (hs dX8_peek_16 ?_)))))
        obtain ⟨t, ht, ta⟩ := tpx (nb2 c4).1 (nb2 c4).2
        refine hs dX8_peek_17 (And.intro (oa_473) (And.intro (by rw [ta]; exact tpv ht) (grv (by rw [ta]; exact tpa ht) (hs dX8_peek_18 (And.intro ((tpo ht).1) (gx (v := 0) ((tpr t ht).2.2.2.1) (hs dX8_peek_21 (And.intro (fun c21 => absurd c21 c8) (fun c21 => (hs dX8_peek_24 (hs dX8_peek_27 (And.intro (rfl) (And.intro rfl ?_)))))))))))))
        try simp only [ki_0, b2_0, b2_1] at c4 c8
        try simp only [Int32.lt_iff_toInt_lt, Int32.le_iff_toInt_le, ← Int32.toInt_inj, ti_0] at c4 c8
        have e : an_peek a b = (-9223372036854775808) := rfl
        rw [e] at hk
        exact hk _ _ (by repeat (first | exact Up_0 | assumption | refine Up_k ?_ (by assumption) (by assumption) | refine Up_u ?_ (by omega) | refine Up_sL ?_ (by omega) | refine Up_sI ?_ (by omega) | refine Up_l ?_ (by omega)))
  · exact h.elim
theorem ct_X8_peek {E : Ev} {l : Launch} : CT E l yX8_peek (wsY yX8_peek cX8_peek 3 (some .long)) rm_X8_peek 0 sp_X8_peek := ct_of (T := T_X8_peek) (own := RX8) (by decide) rfl (fun ci h10 hc => by have h2 : (99 : Nat) = ci := Nat.eq_of_beq_eq_true hc; omega) ⟨rfl, rfl⟩ ⟨fok_X8, clok_X8, jok_X8, List.forall_mem_cons.mpr ⟨cok_S ct_X8_isTape ((cl_ins (c := 8) (by decide)).2) ml_X8_263 im_X8_isTape co_X8_isTape mo_X8_isTape (by decide), fun _ h => absurd h List.not_mem_nil⟩⟩ bd_X8_peek
def sp_X8_tape : Spc := fun as N lg it rf K => match as with | [.ref 0, .int a, .int b, .int c] => (N = NT ∧ lg = LG0 ∧ it = IT0 ∧ rf = RF0) ∧ ∀ lg' it', Up lg' it' → K (some (.int (an_tape a b c))) lg' it' RF0 | _ => False
def T_X8_tape : Tab := (FL_X8, CL_X8, JL_X8, [(263, 1, 1, 0, 0, sp_X8_isTape), (277, 0, 3, 6, 0, sp_X6_renewAs)], 99, (some .int))
def rm_X8_tape : Room := { frames := 2, cells := 0, slots := 0, locals := 46 }
set_option maxRecDepth 100000 in
theorem bd_X8_tape (as : List Value) (N : Nat) (lg : LGt) (it : ITt) (rf : RFt) (Q : Post) (h : sp_X8_tape as N lg it rf Q) : Bd T_X8_tape cX8_tape 4 0 as N lg it rf Q := by
  unfold sp_X8_tape at h
  split at h
  · rename_i a b c
    refine ⟨Nat.le_of_ble_eq_true rfl, fun P hs hw => ?_⟩
    obtain ⟨⟨rfl, rfl, rfl, rfl⟩, hk⟩ := h
    refine hs dX8_tape_0 (hs dX8_tape_1 (And.intro (trivial) (n0 (hs dX8_tape_4 (And.intro (fun c4 => ?_) (fun c4 => ?_))))))
    · try dsimp only at c4
      try simp only [kb_m14, kb_m2, kb_60, ki_m1, ki_0, ki_1, ki_4] at c4
      refine hs dX8_tape_9 (hs dX8_tape_10 (hs dX8_tape_11 (And.intro (fun c11 => ?_) (fun c11 => ?_))))
      · try dsimp only at c11
        try simp only [kb_m14, kb_m2, kb_60, ki_m1, ki_0, ki_1, ki_4] at c11
        refine hs dX8_tape_19 (hs dX8_tape_21 (And.intro (rfl) (And.intro rfl ?_)))
        try simp only [kb_m14, kb_m2, kb_60, ki_m1, ki_0, ki_1, ki_4, b2_0, b2_1] at c4 c11
        try simp only [Int32.lt_iff_toInt_lt, Int32.le_iff_toInt_le, ← Int32.toInt_inj, ti_m14, ti_m2, ti_m1, ti_0, ti_1, ti_4, ti_60] at c4 c11
        have e : an_tape a b c = (-2) := by
          first
          | (exfalso; omega)
          | unfold an_tape
            try simp only [ti_0, ti_1]
            repeat (first | rw [if_pos (by first | omega | simp)] | rw [if_neg (by omega)])
            all_goals rfl
        rw [e] at hk
        exact hk _ _ (by repeat (first | exact Up_0 | assumption | refine Up_k ?_ (by assumption) (by assumption) | refine Up_u ?_ (by omega) | refine Up_sL ?_ (by omega) | refine Up_sI ?_ (by omega) | refine Up_l ?_ (by omega)))
      · try dsimp only at c11
        try simp only [kb_m14, kb_m2, kb_60, ki_m1, ki_0, ki_1, ki_4] at c11
        refine hs dX8_tape_14 (hs dX8_tape_15 (hs dX8_tape_16 (And.intro (fun c16 => ?_) (fun c16 => ?_))))
        · try dsimp only at c16
          try simp only [kb_m14, kb_m2, kb_60, ki_m1, ki_0, ki_1, ki_4] at c16
          refine hs dX8_tape_22 (hs dX8_tape_23 (hs dX8_tape_24 (And.intro (fun c24 => ?_) (fun c24 => ?_))))
          · try dsimp only at c24
            try simp only [kb_m14, kb_m2, kb_60, ki_m1, ki_0, ki_1, ki_4] at c24
            refine hs dX8_tape_36 (hs dX8_tape_37 (hs dX8_tape_38 (And.intro (fun c38 => ?_) (fun c38 => ?_))))
            · try dsimp only at c38
              try simp only [kb_m14, kb_m2, kb_60, ki_m1, ki_0, ki_1, ki_4] at c38
              refine hs dX8_tape_48 (hs dX8_tape_49 (And.intro (ob_0) (gr (r_0_6) (hs dX8_tape_52 ?_))))
              obtain ⟨t, ht, ta⟩ := tpx (nb2 c4).1 (nb2 c4).2
              refine hs dX8_tape_53 (And.intro (oa_473) (And.intro (by rw [ta]; exact tpv ht) (grv (by rw [ta]; exact tpa ht) (hs dX8_tape_54 (hs dX8_tape_55 (hs dX8_tape_56 (hs dX8_tape_57 (And.intro (fun c57 => ?_) (fun c57 => ?_)))))))))
              · try dsimp only at c57
                try simp only [kb_m14, kb_m2, kb_60, ki_m1, ki_0, ki_1, ki_4] at c57
                refine hs dX8_tape_64 (hs dX8_tape_65 (And.intro ((tpo ht).1) (And.intro ⟨rfl, rfl, t, ht, rfl⟩ (fun lg5 it5 hK5 hL5 => n0 ?_) )))
                refine hs dX8_tape_68 (hs dX8_tape_69 (And.intro (rfl) (And.intro rfl ?_)))
                try simp only [kb_m14, kb_m2, kb_60, ki_m1, ki_0, ki_1, ki_4, b2_0, b2_1] at c4 c11 c16 c24 c38 c57
                try simp only [Int32.lt_iff_toInt_lt, Int32.le_iff_toInt_le, ← Int32.toInt_inj, ti_m14, ti_m2, ti_m1, ti_0, ti_1, ti_4, ti_60] at c4 c11 c16 c24 c38 c57
                have e : an_tape a b c = 1 := by
                  first
                  | (exfalso; omega)
                  | unfold an_tape
                    try simp only [ti_0, ti_1]
                    repeat (first | rw [if_pos (by first | omega | simp)] | rw [if_neg (by omega)])
                    all_goals rfl
                rw [e] at hk
                exact hk _ _ (by repeat (first | exact Up_0 | assumption | refine Up_k ?_ (by assumption) (by assumption) | refine Up_u ?_ (by omega) | refine Up_sL ?_ (by omega) | refine Up_sI ?_ (by omega) | refine Up_l ?_ (by omega)))
              · try dsimp only at c57
                try simp only [kb_m14, kb_m2, kb_60, ki_m1, ki_0, ki_1, ki_4] at c57
                refine hs dX8_tape_60 (hs dX8_tape_61 (hs dX8_tape_65 (And.intro ((tpo ht).1) (And.intro ⟨rfl, rfl, t, ht, rfl⟩ (fun lg6 it6 hK6 hL6 => n0 ?_) ))))
                refine hs dX8_tape_68 (hs dX8_tape_69 (And.intro (rfl) (And.intro rfl ?_)))
                try simp only [kb_m14, kb_m2, kb_60, ki_m1, ki_0, ki_1, ki_4, b2_0, b2_1] at c4 c11 c16 c24 c38 c57
                try simp only [Int32.lt_iff_toInt_lt, Int32.le_iff_toInt_le, ← Int32.toInt_inj, ti_m14, ti_m2, ti_m1, ti_0, ti_1, ti_4, ti_60] at c4 c11 c16 c24 c38 c57
                have e : an_tape a b c = 1 := by
                  first
                  | (exfalso; omega)
                  | unfold an_tape
                    try simp only [ti_0, ti_1]
                    repeat (first | rw [if_pos (by first | omega | simp)] | rw [if_neg (by omega)])
                    all_goals rfl
                rw [e] at hk
                exact hk _ _ (by repeat (first | exact Up_0 | assumption | refine Up_k ?_ (by assumption) (by assumption) | refine Up_u ?_ (by omega) | refine Up_sL ?_ (by omega) | refine Up_sI ?_ (by omega) | refine Up_l ?_ (by omega)))
            · try dsimp only at c38
              try simp only [kb_m14, kb_m2, kb_60, ki_m1, ki_0, ki_1, ki_4] at c38
              refine hs dX8_tape_41 (hs dX8_tape_42 (And.intro (fun c42 => ?_) (fun c42 => ?_)))
              · try dsimp only at c42
                try simp only [kb_m14, kb_m2, kb_60, ki_m1, ki_0, ki_1, ki_4] at c42
                refine hs dX8_tape_48 (hs dX8_tape_49 (And.intro (ob_0) (gr (r_0_6) (hs dX8_tape_52 ?_))))
                obtain ⟨t, ht, ta⟩ := tpx (nb2 c4).1 (nb2 c4).2
                refine hs dX8_tape_53 (And.intro (oa_473) (And.intro (by rw [ta]; exact tpv ht) (grv (by rw [ta]; exact tpa ht) (hs dX8_tape_54 (hs dX8_tape_55 (hs dX8_tape_56 (hs dX8_tape_57 (And.intro (fun c57 => ?_) (fun c57 => ?_)))))))))
                · try dsimp only at c57
                  try simp only [kb_m14, kb_m2, kb_60, ki_m1, ki_0, ki_1, ki_4] at c57
                  refine hs dX8_tape_64 (hs dX8_tape_65 (And.intro ((tpo ht).1) (And.intro ⟨rfl, rfl, t, ht, rfl⟩ (fun lg7 it7 hK7 hL7 => n0 ?_) )))
                  refine hs dX8_tape_68 (hs dX8_tape_69 (And.intro (rfl) (And.intro rfl ?_)))
                  try simp only [kb_m14, kb_m2, kb_60, ki_m1, ki_0, ki_1, ki_4, b2_0, b2_1] at c4 c11 c16 c24 c38 c42 c57
                  try simp only [Int32.lt_iff_toInt_lt, Int32.le_iff_toInt_le, ← Int32.toInt_inj, ti_m14, ti_m2, ti_m1, ti_0, ti_1, ti_4, ti_60] at c4 c11 c16 c24 c38 c42 c57
                  have e : an_tape a b c = 1 := by
                    first
                    | (exfalso; omega)
                    | unfold an_tape
                      try simp only [ti_0, ti_1]
                      repeat (first | rw [if_pos (by first | omega | simp)] | rw [if_neg (by omega)])
                      all_goals rfl
                  rw [e] at hk
                  exact hk _ _ (by repeat (first | exact Up_0 | assumption | refine Up_k ?_ (by assumption) (by assumption) | refine Up_u ?_ (by omega) | refine Up_sL ?_ (by omega) | refine Up_sI ?_ (by omega) | refine Up_l ?_ (by omega)))
                · try dsimp only at c57
                  try simp only [kb_m14, kb_m2, kb_60, ki_m1, ki_0, ki_1, ki_4] at c57
                  refine hs dX8_tape_60 (hs dX8_tape_61 (hs dX8_tape_65 (And.intro ((tpo ht).1) (And.intro ⟨rfl, rfl, t, ht, rfl⟩ (fun lg8 it8 hK8 hL8 => n0 ?_) ))))
                  refine hs dX8_tape_68 (hs dX8_tape_69 (And.intro (rfl) (And.intro rfl ?_)))
                  try simp only [kb_m14, kb_m2, kb_60, ki_m1, ki_0, ki_1, ki_4, b2_0, b2_1] at c4 c11 c16 c24 c38 c42 c57
                  try simp only [Int32.lt_iff_toInt_lt, Int32.le_iff_toInt_le, ← Int32.toInt_inj, ti_m14, ti_m2, ti_m1, ti_0, ti_1, ti_4, ti_60] at c4 c11 c16 c24 c38 c42 c57
                  have e : an_tape a b c = 1 := by
                    first
                    | (exfalso; omega)
                    | unfold an_tape
                      try simp only [ti_0, ti_1]
                      repeat (first | rw [if_pos (by first | omega | simp)] | rw [if_neg (by omega)])
                      all_goals rfl
                  rw [e] at hk
                  exact hk _ _ (by repeat (first | exact Up_0 | assumption | refine Up_k ?_ (by assumption) (by assumption) | refine Up_u ?_ (by omega) | refine Up_sL ?_ (by omega) | refine Up_sI ?_ (by omega) | refine Up_l ?_ (by omega)))
              · try dsimp only at c42
                try simp only [kb_m14, kb_m2, kb_60, ki_m1, ki_0, ki_1, ki_4] at c42
                refine hs dX8_tape_45 (hs dX8_tape_47 (And.intro (rfl) (And.intro rfl ?_)))
                try simp only [kb_m14, kb_m2, kb_60, ki_m1, ki_0, ki_1, ki_4, b2_0, b2_1] at c4 c11 c16 c24 c38 c42
                try simp only [Int32.lt_iff_toInt_lt, Int32.le_iff_toInt_le, ← Int32.toInt_inj, ti_m14, ti_m2, ti_m1, ti_0, ti_1, ti_4, ti_60] at c4 c11 c16 c24 c38 c42
                have e : an_tape a b c = (-14) := by
                  first
                  | (exfalso; omega)
                  | unfold an_tape
                    try simp only [ti_0, ti_1]
                    repeat (first | rw [if_pos (by first | omega | simp)] | rw [if_neg (by omega)])
                    all_goals rfl
                rw [e] at hk
                exact hk _ _ (by repeat (first | exact Up_0 | assumption | refine Up_k ?_ (by assumption) (by assumption) | refine Up_u ?_ (by omega) | refine Up_sL ?_ (by omega) | refine Up_sI ?_ (by omega) | refine Up_l ?_ (by omega)))
          · try dsimp only at c24
            try simp only [kb_m14, kb_m2, kb_60, ki_m1, ki_0, ki_1, ki_4] at c24
            refine hs dX8_tape_27 (hs dX8_tape_28 (hs dX8_tape_30 (And.intro (fun c30 => ?_) (fun c30 => ?_))))
            · try dsimp only at c30
              try simp only [kb_m14, kb_m2, kb_60, ki_m1, ki_0, ki_1, ki_4] at c30
              refine hs dX8_tape_36 (hs dX8_tape_37 (hs dX8_tape_38 (And.intro (fun c38 => ?_) (fun c38 => ?_))))
              · try dsimp only at c38
                try simp only [kb_m14, kb_m2, kb_60, ki_m1, ki_0, ki_1, ki_4] at c38
                refine hs dX8_tape_48 (hs dX8_tape_49 (And.intro (ob_0) (gr (r_0_6) (hs dX8_tape_52 ?_))))
                obtain ⟨t, ht, ta⟩ := tpx (nb2 c4).1 (nb2 c4).2
                refine hs dX8_tape_53 (And.intro (oa_473) (And.intro (by rw [ta]; exact tpv ht) (grv (by rw [ta]; exact tpa ht) (hs dX8_tape_54 (hs dX8_tape_55 (hs dX8_tape_56 (hs dX8_tape_57 (And.intro (fun c57 => ?_) (fun c57 => ?_)))))))))
                · try dsimp only at c57
                  try simp only [kb_m14, kb_m2, kb_60, ki_m1, ki_0, ki_1, ki_4] at c57
                  refine hs dX8_tape_64 (hs dX8_tape_65 (And.intro ((tpo ht).1) (And.intro ⟨rfl, rfl, t, ht, rfl⟩ (fun lg9 it9 hK9 hL9 => n0 ?_) )))
                  refine hs dX8_tape_68 (hs dX8_tape_69 (And.intro (rfl) (And.intro rfl ?_)))
                  try simp only [kb_m14, kb_m2, kb_60, ki_m1, ki_0, ki_1, ki_4, b2_0, b2_1] at c4 c11 c16 c24 c30 c38 c57
                  try simp only [Int32.lt_iff_toInt_lt, Int32.le_iff_toInt_le, ← Int32.toInt_inj, ti_m14, ti_m2, ti_m1, ti_0, ti_1, ti_4, ti_60] at c4 c11 c16 c24 c30 c38 c57
                  have e : an_tape a b c = 1 := by
                    first
                    | (exfalso; omega)
                    | unfold an_tape
                      try simp only [ti_0, ti_1]
                      repeat (first | rw [if_pos (by first | omega | simp)] | rw [if_neg (by omega)])
                      all_goals rfl
                  rw [e] at hk
                  exact hk _ _ (by repeat (first | exact Up_0 | assumption | refine Up_k ?_ (by assumption) (by assumption) | refine Up_u ?_ (by omega) | refine Up_sL ?_ (by omega) | refine Up_sI ?_ (by omega) | refine Up_l ?_ (by omega)))
                · try dsimp only at c57
                  try simp only [kb_m14, kb_m2, kb_60, ki_m1, ki_0, ki_1, ki_4] at c57
                  refine hs dX8_tape_60 (hs dX8_tape_61 (hs dX8_tape_65 (And.intro ((tpo ht).1) (And.intro ⟨rfl, rfl, t, ht, rfl⟩ (fun lg10 it10 hK10 hL10 => n0 ?_) ))))
                  refine hs dX8_tape_68 (hs dX8_tape_69 (And.intro (rfl) (And.intro rfl ?_)))
                  try simp only [kb_m14, kb_m2, kb_60, ki_m1, ki_0, ki_1, ki_4, b2_0, b2_1] at c4 c11 c16 c24 c30 c38 c57
                  try simp only [Int32.lt_iff_toInt_lt, Int32.le_iff_toInt_le, ← Int32.toInt_inj, ti_m14, ti_m2, ti_m1, ti_0, ti_1, ti_4, ti_60] at c4 c11 c16 c24 c30 c38 c57
                  have e : an_tape a b c = 1 := by
                    first
                    | (exfalso; omega)
                    | unfold an_tape
                      try simp only [ti_0, ti_1]
                      repeat (first | rw [if_pos (by first | omega | simp)] | rw [if_neg (by omega)])
                      all_goals rfl
                  rw [e] at hk
                  exact hk _ _ (by repeat (first | exact Up_0 | assumption | refine Up_k ?_ (by assumption) (by assumption) | refine Up_u ?_ (by omega) | refine Up_sL ?_ (by omega) | refine Up_sI ?_ (by omega) | refine Up_l ?_ (by omega)))
              · try dsimp only at c38
                try simp only [kb_m14, kb_m2, kb_60, ki_m1, ki_0, ki_1, ki_4] at c38
                refine hs dX8_tape_41 (hs dX8_tape_42 (And.intro (fun c42 => ?_) (fun c42 => ?_)))
                · try dsimp only at c42
                  try simp only [kb_m14, kb_m2, kb_60, ki_m1, ki_0, ki_1, ki_4] at c42
                  refine hs dX8_tape_48 (hs dX8_tape_49 (And.intro (ob_0) (gr (r_0_6) (hs dX8_tape_52 ?_))))
                  obtain ⟨t, ht, ta⟩ := tpx (nb2 c4).1 (nb2 c4).2
                  refine hs dX8_tape_53 (And.intro (oa_473) (And.intro (by rw [ta]; exact tpv ht) (grv (by rw [ta]; exact tpa ht) (hs dX8_tape_54 (hs dX8_tape_55 (hs dX8_tape_56 (hs dX8_tape_57 (And.intro (fun c57 => ?_) (fun c57 => ?_)))))))))
                  · try dsimp only at c57
                    try simp only [kb_m14, kb_m2, kb_60, ki_m1, ki_0, ki_1, ki_4] at c57
                    refine hs dX8_tape_64 (hs dX8_tape_65 (And.intro ((tpo ht).1) (And.intro ⟨rfl, rfl, t, ht, rfl⟩ (fun lg11 it11 hK11 hL11 => n0 ?_) )))
                    refine hs dX8_tape_68 (hs dX8_tape_69 (And.intro (rfl) (And.intro rfl ?_)))
                    try simp only [kb_m14, kb_m2, kb_60, ki_m1, ki_0, ki_1, ki_4, b2_0, b2_1] at c4 c11 c16 c24 c30 c38 c42 c57
                    try simp only [Int32.lt_iff_toInt_lt, Int32.le_iff_toInt_le, ← Int32.toInt_inj, ti_m14, ti_m2, ti_m1, ti_0, ti_1, ti_4, ti_60] at c4 c11 c16 c24 c30 c38 c42 c57
                    have e : an_tape a b c = 1 := by
                      first
                      | (exfalso; omega)
                      | unfold an_tape
                        try simp only [ti_0, ti_1]
                        repeat (first | rw [if_pos (by first | omega | simp)] | rw [if_neg (by omega)])
                        all_goals rfl
                    rw [e] at hk
                    exact hk _ _ (by repeat (first | exact Up_0 | assumption | refine Up_k ?_ (by assumption) (by assumption) | refine Up_u ?_ (by omega) | refine Up_sL ?_ (by omega) | refine Up_sI ?_ (by omega) | refine Up_l ?_ (by omega)))
                  · try dsimp only at c57
                    try simp only [kb_m14, kb_m2, kb_60, ki_m1, ki_0, ki_1, ki_4] at c57
                    refine hs dX8_tape_60 (hs dX8_tape_61 (hs dX8_tape_65 (And.intro ((tpo ht).1) (And.intro ⟨rfl, rfl, t, ht, rfl⟩ (fun lg12 it12 hK12 hL12 => n0 ?_) ))))
                    refine hs dX8_tape_68 (hs dX8_tape_69 (And.intro (rfl) (And.intro rfl ?_)))
                    try simp only [kb_m14, kb_m2, kb_60, ki_m1, ki_0, ki_1, ki_4, b2_0, b2_1] at c4 c11 c16 c24 c30 c38 c42 c57
                    try simp only [Int32.lt_iff_toInt_lt, Int32.le_iff_toInt_le, ← Int32.toInt_inj, ti_m14, ti_m2, ti_m1, ti_0, ti_1, ti_4, ti_60] at c4 c11 c16 c24 c30 c38 c42 c57
                    have e : an_tape a b c = 1 := by
                      first
                      | (exfalso; omega)
                      | unfold an_tape
                        try simp only [ti_0, ti_1]
                        repeat (first | rw [if_pos (by first | omega | simp)] | rw [if_neg (by omega)])
                        all_goals rfl
                    rw [e] at hk
                    exact hk _ _ (by repeat (first | exact Up_0 | assumption | refine Up_k ?_ (by assumption) (by assumption) | refine Up_u ?_ (by omega) | refine Up_sL ?_ (by omega) | refine Up_sI ?_ (by omega) | refine Up_l ?_ (by omega)))
                · try dsimp only at c42
                  try simp only [kb_m14, kb_m2, kb_60, ki_m1, ki_0, ki_1, ki_4] at c42
                  refine hs dX8_tape_45 (hs dX8_tape_47 (And.intro (rfl) (And.intro rfl ?_)))
                  try simp only [kb_m14, kb_m2, kb_60, ki_m1, ki_0, ki_1, ki_4, b2_0, b2_1] at c4 c11 c16 c24 c30 c38 c42
                  try simp only [Int32.lt_iff_toInt_lt, Int32.le_iff_toInt_le, ← Int32.toInt_inj, ti_m14, ti_m2, ti_m1, ti_0, ti_1, ti_4, ti_60] at c4 c11 c16 c24 c30 c38 c42
                  have e : an_tape a b c = (-14) := by
                    first
                    | (exfalso; omega)
                    | unfold an_tape
                      try simp only [ti_0, ti_1]
                      repeat (first | rw [if_pos (by first | omega | simp)] | rw [if_neg (by omega)])
                      all_goals rfl
                  rw [e] at hk
                  exact hk _ _ (by repeat (first | exact Up_0 | assumption | refine Up_k ?_ (by assumption) (by assumption) | refine Up_u ?_ (by omega) | refine Up_sL ?_ (by omega) | refine Up_sI ?_ (by omega) | refine Up_l ?_ (by omega)))
            · try dsimp only at c30
              try simp only [kb_m14, kb_m2, kb_60, ki_m1, ki_0, ki_1, ki_4] at c30
              refine hs dX8_tape_33 (hs dX8_tape_35 (And.intro (rfl) (And.intro rfl ?_)))
              try simp only [kb_m14, kb_m2, kb_60, ki_m1, ki_0, ki_1, ki_4, b2_0, b2_1] at c4 c11 c16 c24 c30
              try simp only [Int32.lt_iff_toInt_lt, Int32.le_iff_toInt_le, ← Int32.toInt_inj, ti_m14, ti_m2, ti_m1, ti_0, ti_1, ti_4, ti_60] at c4 c11 c16 c24 c30
              have e : an_tape a b c = (-2) := by
                first
                | (exfalso; omega)
                | unfold an_tape
                  try simp only [ti_0, ti_1]
                  repeat (first | rw [if_pos (by first | omega | simp)] | rw [if_neg (by omega)])
                  all_goals rfl
              rw [e] at hk
              exact hk _ _ (by repeat (first | exact Up_0 | assumption | refine Up_k ?_ (by assumption) (by assumption) | refine Up_u ?_ (by omega) | refine Up_sL ?_ (by omega) | refine Up_sI ?_ (by omega) | refine Up_l ?_ (by omega)))
        · try dsimp only at c16
          try simp only [kb_m14, kb_m2, kb_60, ki_m1, ki_0, ki_1, ki_4] at c16
          refine hs dX8_tape_19 (hs dX8_tape_21 (And.intro (rfl) (And.intro rfl ?_)))
          try simp only [kb_m14, kb_m2, kb_60, ki_m1, ki_0, ki_1, ki_4, b2_0, b2_1] at c4 c11 c16
          try simp only [Int32.lt_iff_toInt_lt, Int32.le_iff_toInt_le, ← Int32.toInt_inj, ti_m14, ti_m2, ti_m1, ti_0, ti_1, ti_4, ti_60] at c4 c11 c16
          have e : an_tape a b c = (-2) := by
            first
            | (exfalso; omega)
            | unfold an_tape
              try simp only [ti_0, ti_1]
              repeat (first | rw [if_pos (by first | omega | simp)] | rw [if_neg (by omega)])
              all_goals rfl
          rw [e] at hk
          exact hk _ _ (by repeat (first | exact Up_0 | assumption | refine Up_k ?_ (by assumption) (by assumption) | refine Up_u ?_ (by omega) | refine Up_sL ?_ (by omega) | refine Up_sI ?_ (by omega) | refine Up_l ?_ (by omega)))
    · try dsimp only at c4
      try simp only [kb_m14, kb_m2, kb_60, ki_m1, ki_0, ki_1, ki_4] at c4
      refine hs dX8_tape_7 (hs dX8_tape_8 (And.intro (rfl) (And.intro rfl ?_)))
      try simp only [kb_m14, kb_m2, kb_60, ki_m1, ki_0, ki_1, ki_4, b2_0, b2_1] at c4
      try simp only [Int32.lt_iff_toInt_lt, Int32.le_iff_toInt_le, ← Int32.toInt_inj, ti_m14, ti_m2, ti_m1, ti_0, ti_1, ti_4, ti_60] at c4
      have e : an_tape a b c = (-1) := by
        first
        | (exfalso; omega)
        | unfold an_tape
          try simp only [ti_0, ti_1]
          repeat (first | rw [if_pos (by first | omega | simp)] | rw [if_neg (by omega)])
          all_goals rfl
      rw [e] at hk
      exact hk _ _ (by repeat (first | exact Up_0 | assumption | refine Up_k ?_ (by assumption) (by assumption) | refine Up_u ?_ (by omega) | refine Up_sL ?_ (by omega) | refine Up_sI ?_ (by omega) | refine Up_l ?_ (by omega)))
  · exact h.elim
theorem ct_X8_tape {E : Ev} {l : Launch} : CT E l yX8_tape (wsY yX8_tape cX8_tape 4 (some .int)) rm_X8_tape 0 sp_X8_tape := ct_of (T := T_X8_tape) (own := RX8) (by decide) rfl (fun ci h10 hc => by have h2 : (99 : Nat) = ci := Nat.eq_of_beq_eq_true hc; omega) ⟨rfl, rfl⟩ ⟨fok_X8, clok_X8, jok_X8, List.forall_mem_cons.mpr ⟨cok_S ct_X8_isTape ((cl_ins (c := 8) (by decide)).2) ml_X8_263 im_X8_isTape co_X8_isTape mo_X8_isTape (by decide), List.forall_mem_cons.mpr ⟨cok_V ct_X6_renewAs (by decide) rfl ml_X8_277 im_X6_renewAs se_X6_renewAs co_X6_renewAs mo_X6_renewAs (by decide), fun _ h => absurd h List.not_mem_nil⟩⟩⟩ bd_X8_tape
def sp_X8_shift : Spc := fun as N lg it rf K => match as with | [.ref 0, .int a, .int b, .int c, .int d, .int e] => (N = NT ∧ lg = LG0 ∧ it = IT0 ∧ rf = RF0) ∧ ∀ lg' it', Up lg' it' → K (some (.int (an_shift a b c d e))) lg' it' RF0 | _ => False
def T_X8_shift : Tab := (FL_X8, CL_X8, JL_X8, [(263, 1, 1, 0, 0, sp_X8_isTape), (285, 1, 5, 0, 0, sp_cpi)], 99, (some .int))
def rm_X8_shift : Room := { frames := 1, cells := 0, slots := 0, locals := 26 }
set_option maxRecDepth 100000 in
theorem bd_X8_shift (as : List Value) (N : Nat) (lg : LGt) (it : ITt) (rf : RFt) (Q : Post) (h : sp_X8_shift as N lg it rf Q) : Bd T_X8_shift cX8_shift 8 0 as N lg it rf Q := by
  unfold sp_X8_shift at h
  split at h
  · rename_i a b c d e
    refine ⟨Nat.le_of_ble_eq_true rfl, fun P hs hw => ?_⟩
    obtain ⟨⟨rfl, rfl, rfl, rfl⟩, hk⟩ := h
    refine hs dX8_shift_0 (hs dX8_shift_1 (And.intro (trivial) (n0 (hs dX8_shift_4 (And.intro (fun c4 => ?_) (fun c4 => ?_))))))
    · try dsimp only at c4
      try simp only [kb_m13, kb_m12, kb_m11, ki_m1] at c4
      refine hs dX8_shift_14 (hs dX8_shift_15 (And.intro (rfl) (And.intro rfl ?_)))
      try simp only [kb_m13, kb_m12, kb_m11, ki_m1, b2_0, b2_1] at c4
      try simp only [Int32.lt_iff_toInt_lt, Int32.le_iff_toInt_le, ← Int32.toInt_inj, ti_m13, ti_m12, ti_m11, ti_m1, ti_0] at c4
      have e : an_shift a b c d e = (-1) := by
        first
        | (exfalso; omega)
        | unfold an_shift
          try simp only [ti_0, ti_1]
          repeat (first | rw [if_pos (by first | omega | simp)] | rw [if_neg (by omega)])
          all_goals rfl
      rw [e] at hk
      exact hk _ _ (by repeat (first | exact Up_0 | assumption | refine Up_k ?_ (by assumption) (by assumption) | refine Up_u ?_ (by omega) | refine Up_sL ?_ (by omega) | refine Up_sI ?_ (by omega) | refine Up_l ?_ (by omega)))
    · try dsimp only at c4
      try simp only [kb_m13, kb_m12, kb_m11, ki_m1] at c4
      refine hs dX8_shift_7 (hs dX8_shift_8 (And.intro (trivial) (n0 (hs dX8_shift_11 (And.intro (fun c11 => ?_) (fun c11 => ?_))))))
      · try dsimp only at c11
        try simp only [kb_m13, kb_m12, kb_m11, ki_m1] at c11
        refine hs dX8_shift_16 (hs dX8_shift_17 (And.intro (ob_0) (gr (r_0_6) (hs dX8_shift_20 ?_))))
        obtain ⟨t, ht, ta⟩ := tpx (nb2 c4).1 (nb2 c4).2
        refine hs dX8_shift_21 (And.intro (oa_473) (And.intro (by rw [ta]; exact tpv ht) (grv (by rw [ta]; exact tpa ht) (hs dX8_shift_22 (hs dX8_shift_24 (hs dX8_shift_25 (And.intro (ob_0) (gr (r_0_6) (hs dX8_shift_28 ?_)))))))))
        obtain ⟨t2, ht2, t2a⟩ := tpx (nb2 c11).1 (nb2 c11).2
        refine hs dX8_shift_29 (And.intro (oa_473) (And.intro (by rw [t2a]; exact tpv ht2) (grv (by rw [t2a]; exact tpa ht2) (hs dX8_shift_30 (hs dX8_shift_32 (hs dX8_shift_34 (And.intro ((tpo ht).1) (gx (v := (-1)) ((tpr t ht).2.2.1) (hs dX8_shift_37 (hs dX8_shift_38 (And.intro (fun c38 => ?_) (fun c38 => absurd (by decide) c38))))))))))))
        refine hs dX8_shift_50 (hs dX8_shift_52 (And.intro (rfl) (And.intro rfl ?_)))
        try simp only [kb_m13, kb_m12, kb_m11, ki_m1, b2_0, b2_1] at c4 c11
        try simp only [Int32.lt_iff_toInt_lt, Int32.le_iff_toInt_le, ← Int32.toInt_inj, ti_m13, ti_m12, ti_m11, ti_m1, ti_0] at c4 c11
        have e : an_shift a b c d e = (-11) := by
          first
          | (exfalso; omega)
          | unfold an_shift
            try simp only [ti_0, ti_1]
            repeat (first | rw [if_pos (by first | omega | simp)] | rw [if_neg (by omega)])
            all_goals rfl
        rw [e] at hk
        exact hk _ _ (by repeat (first | exact Up_0 | assumption | refine Up_k ?_ (by assumption) (by assumption) | refine Up_u ?_ (by omega) | refine Up_sL ?_ (by omega) | refine Up_sI ?_ (by omega) | refine Up_l ?_ (by omega)))
      · try dsimp only at c11
        try simp only [kb_m13, kb_m12, kb_m11, ki_m1] at c11
        refine hs dX8_shift_14 (hs dX8_shift_15 (And.intro (rfl) (And.intro rfl ?_)))
        try simp only [kb_m13, kb_m12, kb_m11, ki_m1, b2_0, b2_1] at c4 c11
        try simp only [Int32.lt_iff_toInt_lt, Int32.le_iff_toInt_le, ← Int32.toInt_inj, ti_m13, ti_m12, ti_m11, ti_m1, ti_0] at c4 c11
        have e : an_shift a b c d e = (-1) := by
          first
          | (exfalso; omega)
          | unfold an_shift
            try simp only [ti_0, ti_1]
            repeat (first | rw [if_pos (by first | omega | simp)] | rw [if_neg (by omega)])
            all_goals rfl
        rw [e] at hk
        exact hk _ _ (by repeat (first | exact Up_0 | assumption | refine Up_k ?_ (by assumption) (by assumption) | refine Up_u ?_ (by omega) | refine Up_sL ?_ (by omega) | refine Up_sI ?_ (by omega) | refine Up_l ?_ (by omega)))
  · exact h.elim
theorem ct_X8_shift {E : Ev} {l : Launch} : CT E l yX8_shift (wsY yX8_shift cX8_shift 8 (some .int)) rm_X8_shift 0 sp_X8_shift := ct_of (T := T_X8_shift) (own := RX8) (by decide) rfl (fun ci h10 hc => by have h2 : (99 : Nat) = ci := Nat.eq_of_beq_eq_true hc; omega) ⟨rfl, rfl⟩ ⟨fok_X8, clok_X8, jok_X8, List.forall_mem_cons.mpr ⟨cok_S ct_X8_isTape ((cl_ins (c := 8) (by decide)).2) ml_X8_263 im_X8_isTape co_X8_isTape mo_X8_isTape (by decide), List.forall_mem_cons.mpr ⟨cok_cpi ml_X8_285 o_cp.1 o_cp.2.1 o_cp.2.2 (by decide), fun _ h => absurd h List.not_mem_nil⟩⟩⟩ bd_X8_shift
