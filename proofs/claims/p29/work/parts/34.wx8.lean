/-! the class: its own methods -/
def w_X8_isMass (a0 : Int32) (K : Int32 → LGt → ITt → Prop)  (lg : LGt) (it : ITt) : Prop := ((a0 < 1) → (K (0 : Int32) lg it)) ∧ ((¬ a0 < 1) → (((9 < a0) → (K (0 : Int32) lg it)) ∧ ((¬ 9 < a0) → (K (1 : Int32) lg it))))
def sp_X8_isMass : Spc := fun as N lg it rf K => match as with | [.int a0] => (N = NT ∧ rf = RF0) ∧ ∃ R : Int32 → LGt → ITt → Prop, w_X8_isMass a0 R  lg it ∧ ∀ v lg' it', R v lg' it' → K (some (.int v)) lg' it' RF0 | _ => False
def T_X8_isMass : Tab := (FL_X8, CL_X8, JL_X8, [], 99, (some .boolean))
def rm_X8_isMass : Room := { frames := 0, cells := 0, slots := 0, locals := 0 }
set_option maxRecDepth 100000 in
theorem bd_X8_isMass (as : List Value) (N : Nat) (lg : LGt) (it : ITt) (rf : RFt) (Q : Post) (h : sp_X8_isMass as N lg it rf Q) : Bd T_X8_isMass cX8_isMass 1 0 as N lg it rf Q := by
  unfold sp_X8_isMass at h
  split at h
  · rename_i a0
    refine ⟨Nat.le_of_ble_eq_true rfl, fun P hs hw hf => ?_⟩
    obtain ⟨⟨rfl, rfl⟩, R, h, hk⟩ := h
    unfold w_X8_isMass at h
    exact gs (P := P) [.int a0] rfl (hs dX8_isMass_0 (hs dX8_isMass_1 (gx (P := P) ki_1 (hs dX8_isMass_2 (And.intro (fun c => have h1 := And.left h c; hs dX8_isMass_15 (gx (P := P) ki_0 (hs dX8_isMass_16 (And.intro rfl (And.intro rfl (And.intro (by decide) (hk _ _ _ h1))))))) (fun c => have h2 := And.right h c; hs dX8_isMass_5 (hs dX8_isMass_6 (gx (P := P) kb_9 (hs dX8_isMass_8 (And.intro (fun c => have h3 := And.left h2 c; hs dX8_isMass_15 (gx (P := P) ki_0 (hs dX8_isMass_16 (And.intro rfl (And.intro rfl (And.intro (by decide) (hk _ _ _ h3))))))) (fun c => have h4 := And.right h2 c; hs dX8_isMass_11 (gx (P := P) ki_1 (hs dX8_isMass_12 (hs dX8_isMass_16 (And.intro rfl (And.intro rfl (And.intro (by decide) (hk _ _ _ h4))))))))))))))))))
  · exact h.elim
theorem ct_X8_isMass {E : Ev} {l : Launch} : CT E l yX8_isMass (wsY yX8_isMass cX8_isMass 1 (some .boolean)) rm_X8_isMass 0 sp_X8_isMass := ct_of (T := T_X8_isMass) (own := RX8) (by decide) rfl (fun ci h10 hc => by have h2 : (99 : Nat) = ci := Nat.eq_of_beq_eq_true hc; omega) ⟨rfl, rfl⟩ ⟨fok_X8, clok_X8, jok_X8, fun _ h => absurd h List.not_mem_nil⟩ bd_X8_isMass
def sp_X8_isMassF : Spc := fun as N lg it rf K => match as with | [.int a0] => (N = NT ∧ rf = RF0) ∧ K (some (.int (b2 (1 ≤ (a0).toInt ∧ (a0).toInt ≤ 9)))) lg it rf | _ => False
theorem sn_X8_isMassF (as : List Value) (N : Nat) (lg : LGt) (it : ITt) (rf : RFt) (K : Post) (h : sp_X8_isMassF as N lg it rf K) : sp_X8_isMass as N lg it rf K := by
  unfold sp_X8_isMassF at h
  split at h
  · rename_i a0
    obtain ⟨⟨rfl, rfl⟩, hk⟩ := h
    refine ⟨⟨rfl, rfl⟩, fun v lg' it' => v = b2 (1 ≤ (a0).toInt ∧ (a0).toInt ≤ 9) ∧ lg' = lg ∧ it' = it, ?_, fun v lg' it' q => by obtain ⟨rfl, rfl, rfl⟩ := q; exact hk⟩
    unfold w_X8_isMass
    repeat' (first | intro c | with_reducible apply And.intro)
    all_goals first | rfl | (symm; apply b2_p; (try simp only [Int32.lt_iff_toInt_lt, Int32.le_iff_toInt_le, ← Int32.toInt_inj, ti_m14, ti_m13, ti_m12, ti_m11, ti_m10, ti_m9, ti_m6, ti_m5, ti_m4, ti_m3, ti_m2, ti_m1, ti_0, ti_1, ti_2, ti_3, ti_4, ti_5, ti_6, ti_7, ti_8, ti_9, ti_10, ti_11, ti_12, ti_19, ti_20, ti_21, ti_44, ti_45, ti_48, ti_57, ti_59, ti_60, ti_98, ti_99, ti_100, ti_101, ti_103, ti_108, ti_110, ti_114, ti_127] at *); omega) | (symm; apply b2_n; (try simp only [Int32.lt_iff_toInt_lt, Int32.le_iff_toInt_le, ← Int32.toInt_inj, ti_m14, ti_m13, ti_m12, ti_m11, ti_m10, ti_m9, ti_m6, ti_m5, ti_m4, ti_m3, ti_m2, ti_m1, ti_0, ti_1, ti_2, ti_3, ti_4, ti_5, ti_6, ti_7, ti_8, ti_9, ti_10, ti_11, ti_12, ti_19, ti_20, ti_21, ti_44, ti_45, ti_48, ti_57, ti_59, ti_60, ti_98, ti_99, ti_100, ti_101, ti_103, ti_108, ti_110, ti_114, ti_127] at *); omega)
  · exact h.elim
theorem ct_X8_isMassF {E : Ev} {l : Launch} : CT E l yX8_isMass (wsY yX8_isMass cX8_isMass 1 (some .boolean)) rm_X8_isMass 0 sp_X8_isMassF := ct_weak ct_X8_isMass sn_X8_isMassF
def w_X8_isSpeed (a0 : Int32) (K : Int32 → LGt → ITt → Prop)  (lg : LGt) (it : ITt) : Prop := ((a0 < (-9)) → (K (0 : Int32) lg it)) ∧ ((¬ a0 < (-9)) → (((9 < a0) → (K (0 : Int32) lg it)) ∧ ((¬ 9 < a0) → (K (1 : Int32) lg it))))
def sp_X8_isSpeed : Spc := fun as N lg it rf K => match as with | [.int a0] => (N = NT ∧ rf = RF0) ∧ ∃ R : Int32 → LGt → ITt → Prop, w_X8_isSpeed a0 R  lg it ∧ ∀ v lg' it', R v lg' it' → K (some (.int v)) lg' it' RF0 | _ => False
def T_X8_isSpeed : Tab := (FL_X8, CL_X8, JL_X8, [], 99, (some .boolean))
def rm_X8_isSpeed : Room := { frames := 0, cells := 0, slots := 0, locals := 0 }
set_option maxRecDepth 100000 in
theorem bd_X8_isSpeed (as : List Value) (N : Nat) (lg : LGt) (it : ITt) (rf : RFt) (Q : Post) (h : sp_X8_isSpeed as N lg it rf Q) : Bd T_X8_isSpeed cX8_isSpeed 1 0 as N lg it rf Q := by
  unfold sp_X8_isSpeed at h
  split at h
  · rename_i a0
    refine ⟨Nat.le_of_ble_eq_true rfl, fun P hs hw hf => ?_⟩
    obtain ⟨⟨rfl, rfl⟩, R, h, hk⟩ := h
    unfold w_X8_isSpeed at h
    exact gs (P := P) [.int a0] rfl (hs dX8_isSpeed_0 (hs dX8_isSpeed_1 (gx (P := P) kb_m9 (hs dX8_isSpeed_3 (And.intro (fun c => have h1 := And.left h c; hs dX8_isSpeed_16 (gx (P := P) ki_0 (hs dX8_isSpeed_17 (And.intro rfl (And.intro rfl (And.intro (by decide) (hk _ _ _ h1))))))) (fun c => have h2 := And.right h c; hs dX8_isSpeed_6 (hs dX8_isSpeed_7 (gx (P := P) kb_9 (hs dX8_isSpeed_9 (And.intro (fun c => have h3 := And.left h2 c; hs dX8_isSpeed_16 (gx (P := P) ki_0 (hs dX8_isSpeed_17 (And.intro rfl (And.intro rfl (And.intro (by decide) (hk _ _ _ h3))))))) (fun c => have h4 := And.right h2 c; hs dX8_isSpeed_12 (gx (P := P) ki_1 (hs dX8_isSpeed_13 (hs dX8_isSpeed_17 (And.intro rfl (And.intro rfl (And.intro (by decide) (hk _ _ _ h4))))))))))))))))))
  · exact h.elim
theorem ct_X8_isSpeed {E : Ev} {l : Launch} : CT E l yX8_isSpeed (wsY yX8_isSpeed cX8_isSpeed 1 (some .boolean)) rm_X8_isSpeed 0 sp_X8_isSpeed := ct_of (T := T_X8_isSpeed) (own := RX8) (by decide) rfl (fun ci h10 hc => by have h2 : (99 : Nat) = ci := Nat.eq_of_beq_eq_true hc; omega) ⟨rfl, rfl⟩ ⟨fok_X8, clok_X8, jok_X8, fun _ h => absurd h List.not_mem_nil⟩ bd_X8_isSpeed
def sp_X8_isSpeedF : Spc := fun as N lg it rf K => match as with | [.int a0] => (N = NT ∧ rf = RF0) ∧ K (some (.int (b2 (-9 ≤ (a0).toInt ∧ (a0).toInt ≤ 9)))) lg it rf | _ => False
theorem sn_X8_isSpeedF (as : List Value) (N : Nat) (lg : LGt) (it : ITt) (rf : RFt) (K : Post) (h : sp_X8_isSpeedF as N lg it rf K) : sp_X8_isSpeed as N lg it rf K := by
  unfold sp_X8_isSpeedF at h
  split at h
  · rename_i a0
    obtain ⟨⟨rfl, rfl⟩, hk⟩ := h
    refine ⟨⟨rfl, rfl⟩, fun v lg' it' => v = b2 (-9 ≤ (a0).toInt ∧ (a0).toInt ≤ 9) ∧ lg' = lg ∧ it' = it, ?_, fun v lg' it' q => by obtain ⟨rfl, rfl, rfl⟩ := q; exact hk⟩
    unfold w_X8_isSpeed
    repeat' (first | intro c | with_reducible apply And.intro)
    all_goals first | rfl | (symm; apply b2_p; (try simp only [Int32.lt_iff_toInt_lt, Int32.le_iff_toInt_le, ← Int32.toInt_inj, ti_m14, ti_m13, ti_m12, ti_m11, ti_m10, ti_m9, ti_m6, ti_m5, ti_m4, ti_m3, ti_m2, ti_m1, ti_0, ti_1, ti_2, ti_3, ti_4, ti_5, ti_6, ti_7, ti_8, ti_9, ti_10, ti_11, ti_12, ti_19, ti_20, ti_21, ti_44, ti_45, ti_48, ti_57, ti_59, ti_60, ti_98, ti_99, ti_100, ti_101, ti_103, ti_108, ti_110, ti_114, ti_127] at *); omega) | (symm; apply b2_n; (try simp only [Int32.lt_iff_toInt_lt, Int32.le_iff_toInt_le, ← Int32.toInt_inj, ti_m14, ti_m13, ti_m12, ti_m11, ti_m10, ti_m9, ti_m6, ti_m5, ti_m4, ti_m3, ti_m2, ti_m1, ti_0, ti_1, ti_2, ti_3, ti_4, ti_5, ti_6, ti_7, ti_8, ti_9, ti_10, ti_11, ti_12, ti_19, ti_20, ti_21, ti_44, ti_45, ti_48, ti_57, ti_59, ti_60, ti_98, ti_99, ti_100, ti_101, ti_103, ti_108, ti_110, ti_114, ti_127] at *); omega)
  · exact h.elim
theorem ct_X8_isSpeedF {E : Ev} {l : Launch} : CT E l yX8_isSpeed (wsY yX8_isSpeed cX8_isSpeed 1 (some .boolean)) rm_X8_isSpeed 0 sp_X8_isSpeedF := ct_weak ct_X8_isSpeed sn_X8_isSpeedF
def w_X8_isQuarters (a0 : Int32) (K : Int32 → LGt → ITt → Prop)  (lg : LGt) (it : ITt) : Prop := ((a0 < 0) → (K (0 : Int32) lg it)) ∧ ((¬ a0 < 0) → (((4 < a0) → (K (0 : Int32) lg it)) ∧ ((¬ 4 < a0) → (K (1 : Int32) lg it))))
def sp_X8_isQuarters : Spc := fun as N lg it rf K => match as with | [.int a0] => (N = NT ∧ rf = RF0) ∧ ∃ R : Int32 → LGt → ITt → Prop, w_X8_isQuarters a0 R  lg it ∧ ∀ v lg' it', R v lg' it' → K (some (.int v)) lg' it' RF0 | _ => False
def T_X8_isQuarters : Tab := (FL_X8, CL_X8, JL_X8, [], 99, (some .boolean))
def rm_X8_isQuarters : Room := { frames := 0, cells := 0, slots := 0, locals := 0 }
set_option maxRecDepth 100000 in
theorem bd_X8_isQuarters (as : List Value) (N : Nat) (lg : LGt) (it : ITt) (rf : RFt) (Q : Post) (h : sp_X8_isQuarters as N lg it rf Q) : Bd T_X8_isQuarters cX8_isQuarters 1 0 as N lg it rf Q := by
  unfold sp_X8_isQuarters at h
  split at h
  · rename_i a0
    refine ⟨Nat.le_of_ble_eq_true rfl, fun P hs hw hf => ?_⟩
    obtain ⟨⟨rfl, rfl⟩, R, h, hk⟩ := h
    unfold w_X8_isQuarters at h
    exact gs (P := P) [.int a0] rfl (hs dX8_isQuarters_0 (hs dX8_isQuarters_1 (And.intro (fun c => have h1 := And.left h c; hs dX8_isQuarters_13 (gx (P := P) ki_0 (hs dX8_isQuarters_14 (And.intro rfl (And.intro rfl (And.intro (by decide) (hk _ _ _ h1))))))) (fun c => have h2 := And.right h c; hs dX8_isQuarters_4 (hs dX8_isQuarters_5 (gx (P := P) ki_4 (hs dX8_isQuarters_6 (And.intro (fun c => have h3 := And.left h2 c; hs dX8_isQuarters_13 (gx (P := P) ki_0 (hs dX8_isQuarters_14 (And.intro rfl (And.intro rfl (And.intro (by decide) (hk _ _ _ h3))))))) (fun c => have h4 := And.right h2 c; hs dX8_isQuarters_9 (gx (P := P) ki_1 (hs dX8_isQuarters_10 (hs dX8_isQuarters_14 (And.intro rfl (And.intro rfl (And.intro (by decide) (hk _ _ _ h4))))))))))))))))
  · exact h.elim
theorem ct_X8_isQuarters {E : Ev} {l : Launch} : CT E l yX8_isQuarters (wsY yX8_isQuarters cX8_isQuarters 1 (some .boolean)) rm_X8_isQuarters 0 sp_X8_isQuarters := ct_of (T := T_X8_isQuarters) (own := RX8) (by decide) rfl (fun ci h10 hc => by have h2 : (99 : Nat) = ci := Nat.eq_of_beq_eq_true hc; omega) ⟨rfl, rfl⟩ ⟨fok_X8, clok_X8, jok_X8, fun _ h => absurd h List.not_mem_nil⟩ bd_X8_isQuarters
def sp_X8_isQuartersF : Spc := fun as N lg it rf K => match as with | [.int a0] => (N = NT ∧ rf = RF0) ∧ K (some (.int (b2 (0 ≤ (a0).toInt ∧ (a0).toInt ≤ 4)))) lg it rf | _ => False
theorem sn_X8_isQuartersF (as : List Value) (N : Nat) (lg : LGt) (it : ITt) (rf : RFt) (K : Post) (h : sp_X8_isQuartersF as N lg it rf K) : sp_X8_isQuarters as N lg it rf K := by
  unfold sp_X8_isQuartersF at h
  split at h
  · rename_i a0
    obtain ⟨⟨rfl, rfl⟩, hk⟩ := h
    refine ⟨⟨rfl, rfl⟩, fun v lg' it' => v = b2 (0 ≤ (a0).toInt ∧ (a0).toInt ≤ 4) ∧ lg' = lg ∧ it' = it, ?_, fun v lg' it' q => by obtain ⟨rfl, rfl, rfl⟩ := q; exact hk⟩
    unfold w_X8_isQuarters
    repeat' (first | intro c | with_reducible apply And.intro)
    all_goals first | rfl | (symm; apply b2_p; (try simp only [Int32.lt_iff_toInt_lt, Int32.le_iff_toInt_le, ← Int32.toInt_inj, ti_m14, ti_m13, ti_m12, ti_m11, ti_m10, ti_m9, ti_m6, ti_m5, ti_m4, ti_m3, ti_m2, ti_m1, ti_0, ti_1, ti_2, ti_3, ti_4, ti_5, ti_6, ti_7, ti_8, ti_9, ti_10, ti_11, ti_12, ti_19, ti_20, ti_21, ti_44, ti_45, ti_48, ti_57, ti_59, ti_60, ti_98, ti_99, ti_100, ti_101, ti_103, ti_108, ti_110, ti_114, ti_127] at *); omega) | (symm; apply b2_n; (try simp only [Int32.lt_iff_toInt_lt, Int32.le_iff_toInt_le, ← Int32.toInt_inj, ti_m14, ti_m13, ti_m12, ti_m11, ti_m10, ti_m9, ti_m6, ti_m5, ti_m4, ti_m3, ti_m2, ti_m1, ti_0, ti_1, ti_2, ti_3, ti_4, ti_5, ti_6, ti_7, ti_8, ti_9, ti_10, ti_11, ti_12, ti_19, ti_20, ti_21, ti_44, ti_45, ti_48, ti_57, ti_59, ti_60, ti_98, ti_99, ti_100, ti_101, ti_103, ti_108, ti_110, ti_114, ti_127] at *); omega)
  · exact h.elim
theorem ct_X8_isQuartersF {E : Ev} {l : Launch} : CT E l yX8_isQuarters (wsY yX8_isQuarters cX8_isQuarters 1 (some .boolean)) rm_X8_isQuarters 0 sp_X8_isQuartersF := ct_weak ct_X8_isQuarters sn_X8_isQuartersF
def w_X8_isPart (a0 : Int32) (K : Int32 → LGt → ITt → Prop)  (lg : LGt) (it : ITt) : Prop := ((a0 = 0) → (K (1 : Int32) lg it)) ∧ ((¬ a0 = 0) → (((¬ a0 = 1) → (K (0 : Int32) lg it)) ∧ ((a0 = 1) → (K (1 : Int32) lg it))))
def sp_X8_isPart : Spc := fun as N lg it rf K => match as with | [.int a0] => (N = NT ∧ rf = RF0) ∧ ∃ R : Int32 → LGt → ITt → Prop, w_X8_isPart a0 R  lg it ∧ ∀ v lg' it', R v lg' it' → K (some (.int v)) lg' it' RF0 | _ => False
def T_X8_isPart : Tab := (FL_X8, CL_X8, JL_X8, [], 99, (some .boolean))
def rm_X8_isPart : Room := { frames := 0, cells := 0, slots := 0, locals := 0 }
set_option maxRecDepth 100000 in
theorem bd_X8_isPart (as : List Value) (N : Nat) (lg : LGt) (it : ITt) (rf : RFt) (Q : Post) (h : sp_X8_isPart as N lg it rf Q) : Bd T_X8_isPart cX8_isPart 1 0 as N lg it rf Q := by
  unfold sp_X8_isPart at h
  split at h
  · rename_i a0
    refine ⟨Nat.le_of_ble_eq_true rfl, fun P hs hw hf => ?_⟩
    obtain ⟨⟨rfl, rfl⟩, R, h, hk⟩ := h
    unfold w_X8_isPart at h
    exact gs (P := P) [.int a0] rfl (hs dX8_isPart_0 (hs dX8_isPart_1 (And.intro (fun c => have h1 := And.left h c; hs dX8_isPart_9 (gx (P := P) ki_1 (hs dX8_isPart_10 (hs dX8_isPart_14 (And.intro rfl (And.intro rfl (And.intro (by decide) (hk _ _ _ h1)))))))) (fun c => have h2 := And.right h c; hs dX8_isPart_4 (hs dX8_isPart_5 (gx (P := P) ki_1 (hs dX8_isPart_6 (And.intro (fun c => have h3 := And.left h2 c; hs dX8_isPart_13 (gx (P := P) ki_0 (hs dX8_isPart_14 (And.intro rfl (And.intro rfl (And.intro (by decide) (hk _ _ _ h3))))))) (fun c => have h4 := And.right h2 c; hs dX8_isPart_9 (gx (P := P) ki_1 (hs dX8_isPart_10 (hs dX8_isPart_14 (And.intro rfl (And.intro rfl (And.intro (by decide) (hk _ _ _ h4))))))))))))))))
  · exact h.elim
theorem ct_X8_isPart {E : Ev} {l : Launch} : CT E l yX8_isPart (wsY yX8_isPart cX8_isPart 1 (some .boolean)) rm_X8_isPart 0 sp_X8_isPart := ct_of (T := T_X8_isPart) (own := RX8) (by decide) rfl (fun ci h10 hc => by have h2 : (99 : Nat) = ci := Nat.eq_of_beq_eq_true hc; omega) ⟨rfl, rfl⟩ ⟨fok_X8, clok_X8, jok_X8, fun _ h => absurd h List.not_mem_nil⟩ bd_X8_isPart
def sp_X8_isPartF : Spc := fun as N lg it rf K => match as with | [.int a0] => (N = NT ∧ rf = RF0) ∧ K (some (.int (b2 (0 ≤ (a0).toInt ∧ (a0).toInt ≤ 1)))) lg it rf | _ => False
theorem sn_X8_isPartF (as : List Value) (N : Nat) (lg : LGt) (it : ITt) (rf : RFt) (K : Post) (h : sp_X8_isPartF as N lg it rf K) : sp_X8_isPart as N lg it rf K := by
  unfold sp_X8_isPartF at h
  split at h
  · rename_i a0
    obtain ⟨⟨rfl, rfl⟩, hk⟩ := h
    refine ⟨⟨rfl, rfl⟩, fun v lg' it' => v = b2 (0 ≤ (a0).toInt ∧ (a0).toInt ≤ 1) ∧ lg' = lg ∧ it' = it, ?_, fun v lg' it' q => by obtain ⟨rfl, rfl, rfl⟩ := q; exact hk⟩
    unfold w_X8_isPart
    repeat' (first | intro c | with_reducible apply And.intro)
    all_goals first | rfl | (symm; apply b2_p; (try simp only [Int32.lt_iff_toInt_lt, Int32.le_iff_toInt_le, ← Int32.toInt_inj, ti_m14, ti_m13, ti_m12, ti_m11, ti_m10, ti_m9, ti_m6, ti_m5, ti_m4, ti_m3, ti_m2, ti_m1, ti_0, ti_1, ti_2, ti_3, ti_4, ti_5, ti_6, ti_7, ti_8, ti_9, ti_10, ti_11, ti_12, ti_19, ti_20, ti_21, ti_44, ti_45, ti_48, ti_57, ti_59, ti_60, ti_98, ti_99, ti_100, ti_101, ti_103, ti_108, ti_110, ti_114, ti_127] at *); omega) | (symm; apply b2_n; (try simp only [Int32.lt_iff_toInt_lt, Int32.le_iff_toInt_le, ← Int32.toInt_inj, ti_m14, ti_m13, ti_m12, ti_m11, ti_m10, ti_m9, ti_m6, ti_m5, ti_m4, ti_m3, ti_m2, ti_m1, ti_0, ti_1, ti_2, ti_3, ti_4, ti_5, ti_6, ti_7, ti_8, ti_9, ti_10, ti_11, ti_12, ti_19, ti_20, ti_21, ti_44, ti_45, ti_48, ti_57, ti_59, ti_60, ti_98, ti_99, ti_100, ti_101, ti_103, ti_108, ti_110, ti_114, ti_127] at *); omega)
  · exact h.elim
theorem ct_X8_isPartF {E : Ev} {l : Launch} : CT E l yX8_isPart (wsY yX8_isPart cX8_isPart 1 (some .boolean)) rm_X8_isPart 0 sp_X8_isPartF := ct_weak ct_X8_isPart sn_X8_isPartF
def w_X8_isTape (a0 : Int32) (K : Int32 → LGt → ITt → Prop)  (lg : LGt) (it : ITt) : Prop := ((a0 < 0) → (K (0 : Int32) lg it)) ∧ ((¬ a0 < 0) → (((6 ≤ a0) → (K (0 : Int32) lg it)) ∧ ((¬ 6 ≤ a0) → (K (1 : Int32) lg it))))
def sp_X8_isTape : Spc := fun as N lg it rf K => match as with | [.int a0] => (N = NT ∧ rf = RF0) ∧ ∃ R : Int32 → LGt → ITt → Prop, w_X8_isTape a0 R  lg it ∧ ∀ v lg' it', R v lg' it' → K (some (.int v)) lg' it' RF0 | _ => False
def T_X8_isTape : Tab := (FL_X8, CL_X8, JL_X8, [], 99, (some .boolean))
def rm_X8_isTape : Room := { frames := 0, cells := 0, slots := 0, locals := 0 }
set_option maxRecDepth 100000 in
theorem bd_X8_isTape (as : List Value) (N : Nat) (lg : LGt) (it : ITt) (rf : RFt) (Q : Post) (h : sp_X8_isTape as N lg it rf Q) : Bd T_X8_isTape cX8_isTape 1 0 as N lg it rf Q := by
  unfold sp_X8_isTape at h
  split at h
  · rename_i a0
    refine ⟨Nat.le_of_ble_eq_true rfl, fun P hs hw hf => ?_⟩
    obtain ⟨⟨rfl, rfl⟩, R, h, hk⟩ := h
    unfold w_X8_isTape at h
    exact gs (P := P) [.int a0] rfl (hs dX8_isTape_0 (hs dX8_isTape_1 (And.intro (fun c => have h1 := And.left h c; hs dX8_isTape_14 (gx (P := P) ki_0 (hs dX8_isTape_15 (And.intro rfl (And.intro rfl (And.intro (by decide) (hk _ _ _ h1))))))) (fun c => have h2 := And.right h c; hs dX8_isTape_4 (hs dX8_isTape_5 (gx (P := P) kb_6 (hs dX8_isTape_7 (And.intro (fun c => have h3 := And.left h2 c; hs dX8_isTape_14 (gx (P := P) ki_0 (hs dX8_isTape_15 (And.intro rfl (And.intro rfl (And.intro (by decide) (hk _ _ _ h3))))))) (fun c => have h4 := And.right h2 c; hs dX8_isTape_10 (gx (P := P) ki_1 (hs dX8_isTape_11 (hs dX8_isTape_15 (And.intro rfl (And.intro rfl (And.intro (by decide) (hk _ _ _ h4))))))))))))))))
  · exact h.elim
theorem ct_X8_isTape {E : Ev} {l : Launch} : CT E l yX8_isTape (wsY yX8_isTape cX8_isTape 1 (some .boolean)) rm_X8_isTape 0 sp_X8_isTape := ct_of (T := T_X8_isTape) (own := RX8) (by decide) rfl (fun ci h10 hc => by have h2 : (99 : Nat) = ci := Nat.eq_of_beq_eq_true hc; omega) ⟨rfl, rfl⟩ ⟨fok_X8, clok_X8, jok_X8, fun _ h => absurd h List.not_mem_nil⟩ bd_X8_isTape
def sp_X8_isTapeF : Spc := fun as N lg it rf K => match as with | [.int a0] => (N = NT ∧ rf = RF0) ∧ K (some (.int (b2 (0 ≤ (a0).toInt ∧ (a0).toInt ≤ 5)))) lg it rf | _ => False
theorem sn_X8_isTapeF (as : List Value) (N : Nat) (lg : LGt) (it : ITt) (rf : RFt) (K : Post) (h : sp_X8_isTapeF as N lg it rf K) : sp_X8_isTape as N lg it rf K := by
  unfold sp_X8_isTapeF at h
  split at h
  · rename_i a0
    obtain ⟨⟨rfl, rfl⟩, hk⟩ := h
    refine ⟨⟨rfl, rfl⟩, fun v lg' it' => v = b2 (0 ≤ (a0).toInt ∧ (a0).toInt ≤ 5) ∧ lg' = lg ∧ it' = it, ?_, fun v lg' it' q => by obtain ⟨rfl, rfl, rfl⟩ := q; exact hk⟩
    unfold w_X8_isTape
    repeat' (first | intro c | with_reducible apply And.intro)
    all_goals first | rfl | (symm; apply b2_p; (try simp only [Int32.lt_iff_toInt_lt, Int32.le_iff_toInt_le, ← Int32.toInt_inj, ti_m14, ti_m13, ti_m12, ti_m11, ti_m10, ti_m9, ti_m6, ti_m5, ti_m4, ti_m3, ti_m2, ti_m1, ti_0, ti_1, ti_2, ti_3, ti_4, ti_5, ti_6, ti_7, ti_8, ti_9, ti_10, ti_11, ti_12, ti_19, ti_20, ti_21, ti_44, ti_45, ti_48, ti_57, ti_59, ti_60, ti_98, ti_99, ti_100, ti_101, ti_103, ti_108, ti_110, ti_114, ti_127] at *); omega) | (symm; apply b2_n; (try simp only [Int32.lt_iff_toInt_lt, Int32.le_iff_toInt_le, ← Int32.toInt_inj, ti_m14, ti_m13, ti_m12, ti_m11, ti_m10, ti_m9, ti_m6, ti_m5, ti_m4, ti_m3, ti_m2, ti_m1, ti_0, ti_1, ti_2, ti_3, ti_4, ti_5, ti_6, ti_7, ti_8, ti_9, ti_10, ti_11, ti_12, ti_19, ti_20, ti_21, ti_44, ti_45, ti_48, ti_57, ti_59, ti_60, ti_98, ti_99, ti_100, ti_101, ti_103, ti_108, ti_110, ti_114, ti_127] at *); omega)
  · exact h.elim
theorem ct_X8_isTapeF {E : Ev} {l : Launch} : CT E l yX8_isTape (wsY yX8_isTape cX8_isTape 1 (some .boolean)) rm_X8_isTape 0 sp_X8_isTapeF := ct_weak ct_X8_isTape sn_X8_isTapeF
def w_X8_isRefusal (a0 : Int32) (K : Int32 → LGt → ITt → Prop)  (lg : LGt) (it : ITt) : Prop := (((-1) < a0) → (K (0 : Int32) lg it)) ∧ ((¬ (-1) < a0) → (((a0 < (-4)) → (K (0 : Int32) lg it)) ∧ ((¬ a0 < (-4)) → (K (1 : Int32) lg it))))
def sp_X8_isRefusal : Spc := fun as N lg it rf K => match as with | [.int a0] => (N = NT ∧ rf = RF0) ∧ ∃ R : Int32 → LGt → ITt → Prop, w_X8_isRefusal a0 R  lg it ∧ ∀ v lg' it', R v lg' it' → K (some (.int v)) lg' it' RF0 | _ => False
def T_X8_isRefusal : Tab := (FL_X8, CL_X8, JL_X8, [], 99, (some .boolean))
def rm_X8_isRefusal : Room := { frames := 0, cells := 0, slots := 0, locals := 0 }
set_option maxRecDepth 100000 in
theorem bd_X8_isRefusal (as : List Value) (N : Nat) (lg : LGt) (it : ITt) (rf : RFt) (Q : Post) (h : sp_X8_isRefusal as N lg it rf Q) : Bd T_X8_isRefusal cX8_isRefusal 1 0 as N lg it rf Q := by
  unfold sp_X8_isRefusal at h
  split at h
  · rename_i a0
    refine ⟨Nat.le_of_ble_eq_true rfl, fun P hs hw hf => ?_⟩
    obtain ⟨⟨rfl, rfl⟩, R, h, hk⟩ := h
    unfold w_X8_isRefusal at h
    exact gs (P := P) [.int a0] rfl (hs dX8_isRefusal_0 (hs dX8_isRefusal_1 (gx (P := P) ki_m1 (hs dX8_isRefusal_2 (And.intro (fun c => have h1 := And.left h c; hs dX8_isRefusal_15 (gx (P := P) ki_0 (hs dX8_isRefusal_16 (And.intro rfl (And.intro rfl (And.intro (by decide) (hk _ _ _ h1))))))) (fun c => have h2 := And.right h c; hs dX8_isRefusal_5 (hs dX8_isRefusal_6 (gx (P := P) kb_m4 (hs dX8_isRefusal_8 (And.intro (fun c => have h3 := And.left h2 c; hs dX8_isRefusal_15 (gx (P := P) ki_0 (hs dX8_isRefusal_16 (And.intro rfl (And.intro rfl (And.intro (by decide) (hk _ _ _ h3))))))) (fun c => have h4 := And.right h2 c; hs dX8_isRefusal_11 (gx (P := P) ki_1 (hs dX8_isRefusal_12 (hs dX8_isRefusal_16 (And.intro rfl (And.intro rfl (And.intro (by decide) (hk _ _ _ h4))))))))))))))))))
  · exact h.elim
theorem ct_X8_isRefusal {E : Ev} {l : Launch} : CT E l yX8_isRefusal (wsY yX8_isRefusal cX8_isRefusal 1 (some .boolean)) rm_X8_isRefusal 0 sp_X8_isRefusal := ct_of (T := T_X8_isRefusal) (own := RX8) (by decide) rfl (fun ci h10 hc => by have h2 : (99 : Nat) = ci := Nat.eq_of_beq_eq_true hc; omega) ⟨rfl, rfl⟩ ⟨fok_X8, clok_X8, jok_X8, fun _ h => absurd h List.not_mem_nil⟩ bd_X8_isRefusal
def sp_X8_isRefusalF : Spc := fun as N lg it rf K => match as with | [.int a0] => (N = NT ∧ rf = RF0) ∧ K (some (.int (b2 (-4 ≤ (a0).toInt ∧ (a0).toInt ≤ -1)))) lg it rf | _ => False
theorem sn_X8_isRefusalF (as : List Value) (N : Nat) (lg : LGt) (it : ITt) (rf : RFt) (K : Post) (h : sp_X8_isRefusalF as N lg it rf K) : sp_X8_isRefusal as N lg it rf K := by
  unfold sp_X8_isRefusalF at h
  split at h
  · rename_i a0
    obtain ⟨⟨rfl, rfl⟩, hk⟩ := h
    refine ⟨⟨rfl, rfl⟩, fun v lg' it' => v = b2 (-4 ≤ (a0).toInt ∧ (a0).toInt ≤ -1) ∧ lg' = lg ∧ it' = it, ?_, fun v lg' it' q => by obtain ⟨rfl, rfl, rfl⟩ := q; exact hk⟩
    unfold w_X8_isRefusal
    repeat' (first | intro c | with_reducible apply And.intro)
    all_goals first | rfl | (symm; apply b2_p; (try simp only [Int32.lt_iff_toInt_lt, Int32.le_iff_toInt_le, ← Int32.toInt_inj, ti_m14, ti_m13, ti_m12, ti_m11, ti_m10, ti_m9, ti_m6, ti_m5, ti_m4, ti_m3, ti_m2, ti_m1, ti_0, ti_1, ti_2, ti_3, ti_4, ti_5, ti_6, ti_7, ti_8, ti_9, ti_10, ti_11, ti_12, ti_19, ti_20, ti_21, ti_44, ti_45, ti_48, ti_57, ti_59, ti_60, ti_98, ti_99, ti_100, ti_101, ti_103, ti_108, ti_110, ti_114, ti_127] at *); omega) | (symm; apply b2_n; (try simp only [Int32.lt_iff_toInt_lt, Int32.le_iff_toInt_le, ← Int32.toInt_inj, ti_m14, ti_m13, ti_m12, ti_m11, ti_m10, ti_m9, ti_m6, ti_m5, ti_m4, ti_m3, ti_m2, ti_m1, ti_0, ti_1, ti_2, ti_3, ti_4, ti_5, ti_6, ti_7, ti_8, ti_9, ti_10, ti_11, ti_12, ti_19, ti_20, ti_21, ti_44, ti_45, ti_48, ti_57, ti_59, ti_60, ti_98, ti_99, ti_100, ti_101, ti_103, ti_108, ti_110, ti_114, ti_127] at *); omega)
  · exact h.elim
theorem ct_X8_isRefusalF {E : Ev} {l : Launch} : CT E l yX8_isRefusal (wsY yX8_isRefusal cX8_isRefusal 1 (some .boolean)) rm_X8_isRefusal 0 sp_X8_isRefusalF := ct_weak ct_X8_isRefusal sn_X8_isRefusalF
def w_X8_isWhere_b10 (a0 : Int32) (K : Int32 → LGt → ITt → Prop)   (lg : LGt) (it : ITt) : Prop := ((¬ a0 = 9) → (K (0 : Int32) lg it)) ∧ ((a0 = 9) → (K (1 : Int32) lg it))
def w_X8_isWhere (a0 : Int32) (K : Int32 → LGt → ITt → Prop)  (lg : LGt) (it : ITt) : Prop := ((a0 < 0) → (w_X8_isWhere_b10 a0 K   lg it)) ∧ ((¬ a0 < 0) → (((a0 < 6) → (K (1 : Int32) lg it)) ∧ ((¬ a0 < 6) → (w_X8_isWhere_b10 a0 K   lg it))))
def sp_X8_isWhere : Spc := fun as N lg it rf K => match as with | [.int a0] => (N = NT ∧ rf = RF0) ∧ ∃ R : Int32 → LGt → ITt → Prop, w_X8_isWhere a0 R  lg it ∧ ∀ v lg' it', R v lg' it' → K (some (.int v)) lg' it' RF0 | _ => False
def T_X8_isWhere : Tab := (FL_X8, CL_X8, JL_X8, [], 99, (some .boolean))
def rm_X8_isWhere : Room := { frames := 0, cells := 0, slots := 0, locals := 0 }
set_option maxRecDepth 100000 in
theorem bd_X8_isWhere (as : List Value) (N : Nat) (lg : LGt) (it : ITt) (rf : RFt) (Q : Post) (h : sp_X8_isWhere as N lg it rf Q) : Bd T_X8_isWhere cX8_isWhere 1 0 as N lg it rf Q := by
  unfold sp_X8_isWhere at h
  split at h
  · rename_i a0
    refine ⟨Nat.le_of_ble_eq_true rfl, fun P hs hw hf => ?_⟩
    obtain ⟨⟨rfl, rfl⟩, R, h, hk⟩ := h
    have b10 : ∀    (lg : LGt) (it : ITt), w_X8_isWhere_b10 a0 R   lg it → P 10 [.int a0] [] NT lg it RF0 := by
      intro lg it h
      unfold w_X8_isWhere_b10 at h
      exact (hs dX8_isWhere_10 (hs dX8_isWhere_11 (gx (P := P) kb_9 (hs dX8_isWhere_13 (And.intro (fun c => have h5 := And.left h c; hs dX8_isWhere_20 (gx (P := P) ki_0 (hs dX8_isWhere_21 (And.intro rfl (And.intro rfl (And.intro (by decide) (hk _ _ _ h5))))))) (fun c => have h6 := And.right h c; hs dX8_isWhere_16 (gx (P := P) ki_1 (hs dX8_isWhere_17 (hs dX8_isWhere_21 (And.intro rfl (And.intro rfl (And.intro (by decide) (hk _ _ _ h6)))))))))))))
    unfold w_X8_isWhere at h
    exact gs (P := P) [.int a0] rfl (hs dX8_isWhere_0 (hs dX8_isWhere_1 (And.intro (fun c => have h1 := And.left h c; hf [.int a0] ⟨Or.inr rfl, trivial⟩ (b10    _ _  h1)) (fun c => have h2 := And.right h c; hs dX8_isWhere_4 (hs dX8_isWhere_5 (gx (P := P) kb_6 (hs dX8_isWhere_7 (And.intro (fun c => have h3 := And.left h2 c; hs dX8_isWhere_16 (gx (P := P) ki_1 (hs dX8_isWhere_17 (hs dX8_isWhere_21 (And.intro rfl (And.intro rfl (And.intro (by decide) (hk _ _ _ h3)))))))) (fun c => have h4 := And.right h2 c; hf [.int a0] ⟨Or.inr rfl, trivial⟩ (b10    _ _  h4))))))))))
  · exact h.elim
theorem ct_X8_isWhere {E : Ev} {l : Launch} : CT E l yX8_isWhere (wsY yX8_isWhere cX8_isWhere 1 (some .boolean)) rm_X8_isWhere 0 sp_X8_isWhere := ct_of (T := T_X8_isWhere) (own := RX8) (by decide) rfl (fun ci h10 hc => by have h2 : (99 : Nat) = ci := Nat.eq_of_beq_eq_true hc; omega) ⟨rfl, rfl⟩ ⟨fok_X8, clok_X8, jok_X8, fun _ h => absurd h List.not_mem_nil⟩ bd_X8_isWhere
def sp_X8_isWhereF : Spc := fun as N lg it rf K => match as with | [.int a0] => (N = NT ∧ rf = RF0) ∧ K (some (.int (b2 ((0 ≤ (a0).toInt ∧ (a0).toInt ≤ 5) ∨ (a0).toInt = 9)))) lg it rf | _ => False
theorem sn_X8_isWhereF (as : List Value) (N : Nat) (lg : LGt) (it : ITt) (rf : RFt) (K : Post) (h : sp_X8_isWhereF as N lg it rf K) : sp_X8_isWhere as N lg it rf K := by
  unfold sp_X8_isWhereF at h
  split at h
  · rename_i a0
    obtain ⟨⟨rfl, rfl⟩, hk⟩ := h
    refine ⟨⟨rfl, rfl⟩, fun v lg' it' => v = b2 ((0 ≤ (a0).toInt ∧ (a0).toInt ≤ 5) ∨ (a0).toInt = 9) ∧ lg' = lg ∧ it' = it, ?_, fun v lg' it' q => by obtain ⟨rfl, rfl, rfl⟩ := q; exact hk⟩
    unfold w_X8_isWhere
    try unfold w_X8_isWhere_b10
    repeat' (first | intro c | with_reducible apply And.intro)
    all_goals first | rfl | (symm; apply b2_p; (try simp only [Int32.lt_iff_toInt_lt, Int32.le_iff_toInt_le, ← Int32.toInt_inj, ti_m14, ti_m13, ti_m12, ti_m11, ti_m10, ti_m9, ti_m6, ti_m5, ti_m4, ti_m3, ti_m2, ti_m1, ti_0, ti_1, ti_2, ti_3, ti_4, ti_5, ti_6, ti_7, ti_8, ti_9, ti_10, ti_11, ti_12, ti_19, ti_20, ti_21, ti_44, ti_45, ti_48, ti_57, ti_59, ti_60, ti_98, ti_99, ti_100, ti_101, ti_103, ti_108, ti_110, ti_114, ti_127] at *); omega) | (symm; apply b2_n; (try simp only [Int32.lt_iff_toInt_lt, Int32.le_iff_toInt_le, ← Int32.toInt_inj, ti_m14, ti_m13, ti_m12, ti_m11, ti_m10, ti_m9, ti_m6, ti_m5, ti_m4, ti_m3, ti_m2, ti_m1, ti_0, ti_1, ti_2, ti_3, ti_4, ti_5, ti_6, ti_7, ti_8, ti_9, ti_10, ti_11, ti_12, ti_19, ti_20, ti_21, ti_44, ti_45, ti_48, ti_57, ti_59, ti_60, ti_98, ti_99, ti_100, ti_101, ti_103, ti_108, ti_110, ti_114, ti_127] at *); omega)
  · exact h.elim
theorem ct_X8_isWhereF {E : Ev} {l : Launch} : CT E l yX8_isWhere (wsY yX8_isWhere cX8_isWhere 1 (some .boolean)) rm_X8_isWhere 0 sp_X8_isWhereF := ct_weak ct_X8_isWhere sn_X8_isWhereF
def w_X8_isBumper (a1 : Int32) (K : Int32 → LGt → ITt → Prop)  (lg : LGt) (it : ITt) : Prop := ((a1 < 0) → (K (0 : Int32) lg it)) ∧ ((¬ a1 < 0) → ((((it 2 0) ≤ a1) → (K (0 : Int32) lg it)) ∧ ((¬ (it 2 0) ≤ a1) → (K (1 : Int32) lg it))))
def sp_X8_isBumper : Spc := fun as N lg it rf K => match as with | [.ref a0, .int a1] => (N = NT ∧ rf = RF0 ∧ a0 = 0) ∧ ∃ R : Int32 → LGt → ITt → Prop, w_X8_isBumper a1 R  lg it ∧ ∀ v lg' it', R v lg' it' → K (some (.int v)) lg' it' RF0 | _ => False
def T_X8_isBumper : Tab := (FL_X8, CL_X8, JL_X8, [], 99, (some .boolean))
def rm_X8_isBumper : Room := { frames := 0, cells := 0, slots := 0, locals := 0 }
set_option maxRecDepth 100000 in
theorem bd_X8_isBumper (as : List Value) (N : Nat) (lg : LGt) (it : ITt) (rf : RFt) (Q : Post) (h : sp_X8_isBumper as N lg it rf Q) : Bd T_X8_isBumper cX8_isBumper 2 0 as N lg it rf Q := by
  unfold sp_X8_isBumper at h
  split at h
  · rename_i a0 a1
    refine ⟨Nat.le_of_ble_eq_true rfl, fun P hs hw hf => ?_⟩
    obtain ⟨⟨rfl, rfl, rfl⟩, R, h, hk⟩ := h
    unfold w_X8_isBumper at h
    exact gs (P := P) [.ref 0, .int a1] rfl (hs dX8_isBumper_0 (hs dX8_isBumper_1 (And.intro (fun c => have h1 := And.left h c; hs dX8_isBumper_22 (gx (P := P) ki_0 (hs dX8_isBumper_23 (And.intro rfl (And.intro rfl (And.intro (by decide) (hk _ _ _ h1))))))) (fun c => have h2 := And.right h c; hs dX8_isBumper_4 (hs dX8_isBumper_5 (hs dX8_isBumper_6 (And.intro (oq_0) (gr (P := P) (rq_0_0) (hs dX8_isBumper_9 (And.intro (oq_1) (gr (P := P) (rq_1_0) (hs dX8_isBumper_12 (And.intro (oq_2) (hs dX8_isBumper_15 (And.intro (fun c => have h3 := And.left h2 c; hs dX8_isBumper_22 (gx (P := P) ki_0 (hs dX8_isBumper_23 (And.intro rfl (And.intro rfl (And.intro (by decide) (hk _ _ _ h3))))))) (fun c => have h4 := And.right h2 c; hs dX8_isBumper_18 (gx (P := P) ki_1 (hs dX8_isBumper_19 (hs dX8_isBumper_23 (And.intro rfl (And.intro rfl (And.intro (by decide) (hk _ _ _ h4)))))))))))))))))))))))
  · exact h.elim
theorem ct_X8_isBumper {E : Ev} {l : Launch} : CT E l yX8_isBumper (wsY yX8_isBumper cX8_isBumper 2 (some .boolean)) rm_X8_isBumper 0 sp_X8_isBumper := ct_of (T := T_X8_isBumper) (own := RX8) (by decide) rfl (fun ci h10 hc => by have h2 : (99 : Nat) = ci := Nat.eq_of_beq_eq_true hc; omega) ⟨rfl, rfl⟩ ⟨fok_X8, clok_X8, jok_X8, fun _ h => absurd h List.not_mem_nil⟩ bd_X8_isBumper
def sp_X8_isBumperF : Spc := fun as N lg it rf K => match as with | [.ref a0, .int a1] => (N = NT ∧ rf = RF0 ∧ a0 = 0) ∧ K (some (.int (b2 (0 ≤ (a1).toInt ∧ (a1).toInt < (it 2 0).toInt)))) lg it rf | _ => False
theorem sn_X8_isBumperF (as : List Value) (N : Nat) (lg : LGt) (it : ITt) (rf : RFt) (K : Post) (h : sp_X8_isBumperF as N lg it rf K) : sp_X8_isBumper as N lg it rf K := by
  unfold sp_X8_isBumperF at h
  split at h
  · rename_i a0 a1
    obtain ⟨⟨rfl, rfl, rfl⟩, hk⟩ := h
    refine ⟨((And.intro (rfl) ((And.intro (rfl) (rfl))))), fun v lg' it' => v = b2 (0 ≤ (a1).toInt ∧ (a1).toInt < (it 2 0).toInt) ∧ lg' = lg ∧ it' = it, ?_, fun v lg' it' q => by obtain ⟨rfl, rfl, rfl⟩ := q; exact hk⟩
    unfold w_X8_isBumper
    repeat' (first | intro c | with_reducible apply And.intro)
    all_goals first | rfl | (symm; apply b2_p; (try simp only [Int32.lt_iff_toInt_lt, Int32.le_iff_toInt_le, ← Int32.toInt_inj, ti_m14, ti_m13, ti_m12, ti_m11, ti_m10, ti_m9, ti_m6, ti_m5, ti_m4, ti_m3, ti_m2, ti_m1, ti_0, ti_1, ti_2, ti_3, ti_4, ti_5, ti_6, ti_7, ti_8, ti_9, ti_10, ti_11, ti_12, ti_19, ti_20, ti_21, ti_44, ti_45, ti_48, ti_57, ti_59, ti_60, ti_98, ti_99, ti_100, ti_101, ti_103, ti_108, ti_110, ti_114, ti_127] at *); omega) | (symm; apply b2_n; (try simp only [Int32.lt_iff_toInt_lt, Int32.le_iff_toInt_le, ← Int32.toInt_inj, ti_m14, ti_m13, ti_m12, ti_m11, ti_m10, ti_m9, ti_m6, ti_m5, ti_m4, ti_m3, ti_m2, ti_m1, ti_0, ti_1, ti_2, ti_3, ti_4, ti_5, ti_6, ti_7, ti_8, ti_9, ti_10, ti_11, ti_12, ti_19, ti_20, ti_21, ti_44, ti_45, ti_48, ti_57, ti_59, ti_60, ti_98, ti_99, ti_100, ti_101, ti_103, ti_108, ti_110, ti_114, ti_127] at *); omega)
  · exact h.elim
theorem ct_X8_isBumperF {E : Ev} {l : Launch} : CT E l yX8_isBumper (wsY yX8_isBumper cX8_isBumper 2 (some .boolean)) rm_X8_isBumper 0 sp_X8_isBumperF := ct_weak ct_X8_isBumper sn_X8_isBumperF
def w_X8_toldWall (a1 : Int32) (K : Int32 → LGt → ITt → Prop)  (lg : LGt) (it : ITt) : Prop := (vp_in a1 2) ∧ (((¬ (it 18 a1.toNatClampNeg) = (-1)) → (K (it 18 a1.toNatClampNeg) lg it)) ∧ (((it 18 a1.toNatClampNeg) = (-1)) → (K ((-5) : Int32) lg it)))
def sp_X8_toldWall : Spc := fun as N lg it rf K => match as with | [.ref a0, .int a1] => (N = NT ∧ rf = RF0 ∧ a0 = 0) ∧ ∃ R : Int32 → LGt → ITt → Prop, w_X8_toldWall a1 R  lg it ∧ ∀ v lg' it', R v lg' it' → K (some (.int v)) lg' it' RF0 | _ => False
def T_X8_toldWall : Tab := (FL_X8, CL_X8, JL_X8, [], 99, (some .int))
def rm_X8_toldWall : Room := { frames := 0, cells := 0, slots := 0, locals := 0 }
set_option maxRecDepth 100000 in
theorem bd_X8_toldWall (as : List Value) (N : Nat) (lg : LGt) (it : ITt) (rf : RFt) (Q : Post) (h : sp_X8_toldWall as N lg it rf Q) : Bd T_X8_toldWall cX8_toldWall 3 0 as N lg it rf Q := by
  unfold sp_X8_toldWall at h
  split at h
  · rename_i a0 a1
    refine ⟨Nat.le_of_ble_eq_true rfl, fun P hs hw hf => ?_⟩
    obtain ⟨⟨rfl, rfl, rfl⟩, R, h, hk⟩ := h
    unfold w_X8_toldWall at h
    exact gs (P := P) [.ref 0, .int a1, uu] rfl (hs dX8_toldWall_0 (hs dX8_toldWall_1 (And.intro (oq_0) (gr (P := P) (rq_0_0) (hs dX8_toldWall_4 (And.intro (oq_1) (gr (P := P) (rq_1_0) (hs dX8_toldWall_7 (And.intro (oq_2) (gr (P := P) (rq_2_5) (hs dX8_toldWall_10 ((have hi1 := And.left h; have h2 := And.right h; hs dX8_toldWall_11 (And.intro (oq_18) (And.intro (vin (lq_18) hi1) ((hs dX8_toldWall_12 (gs (P := P) [.ref 0, .int a1, .int (it 18 a1.toNatClampNeg)] rfl (hs dX8_toldWall_13 (hs dX8_toldWall_14 (gx (P := P) ki_m1 (hs dX8_toldWall_15 (And.intro (fun c => have h3 := And.left h2 c; hs dX8_toldWall_23 (hs dX8_toldWall_24 (And.intro rfl (And.intro rfl (hk _ _ _ h3))))) (fun c => have h4 := And.right h2 c; hs dX8_toldWall_18 (gx (P := P) kb_m5 (hs dX8_toldWall_20 (hs dX8_toldWall_24 (And.intro rfl (And.intro rfl (hk _ _ _ h4))))))))))))))))))))))))))))))
  · exact h.elim
theorem ct_X8_toldWall {E : Ev} {l : Launch} : CT E l yX8_toldWall (wsY yX8_toldWall cX8_toldWall 3 (some .int)) rm_X8_toldWall 0 sp_X8_toldWall := ct_of (T := T_X8_toldWall) (own := RX8) (by decide) rfl (fun ci h10 hc => by have h2 : (99 : Nat) = ci := Nat.eq_of_beq_eq_true hc; omega) ⟨rfl, rfl⟩ ⟨fok_X8, clok_X8, jok_X8, fun _ h => absurd h List.not_mem_nil⟩ bd_X8_toldWall
def w_X8_isBeyond (a1 : Nat) (a2 : Int32) (K : Int32 → LGt → ITt → Prop)  (lg : LGt) (it : ITt) : Prop := ((¬ a2 = 0) → ((it a1 2 &&& 1 = it a1 2) ∧ (∀ (lg3 : LGt), lg3 = sL lg 486 (lg a1 0) (lg a1 1) → ∀ (it4 : ITt), it4 = sI it 486 2 (it a1 2) → (∀ (lg8 : LGt), lg8 = sL lg3 488 (100 : Int64) 1 → ∀ (it9 : ITt), it9 = sI it4 488 2 0 → (∀ (q11 : FV), q11 = fLess (fv lg8 it9 486) (fv lg8 it9 488) → ∀ (lg12 : LGt), lg12 = sL lg8 486 q11.1 q11.2.1 → ∀ (it13 : ITt), it13 = sI it9 486 2 q11.2.2 → ((¬ (it13 486 2) = 0) → (K (1 : Int32) lg12 it13)) ∧ (((it13 486 2) = 0) → ((((lg12 486 0) ≤ 0) → (K (0 : Int32) lg12 it13)) ∧ ((¬ (lg12 486 0) ≤ 0) → (K (1 : Int32) lg12 it13))))))))) ∧ ((a2 = 0) → (((0 ≤ (lg a1 0)) → (K (0 : Int32) lg it)) ∧ ((¬ 0 ≤ (lg a1 0)) → (K (1 : Int32) lg it))))
def sp_X8_isBeyond : Spc := fun as N lg it rf K => match as with | [.ref a0, .ref a1, .int a2] => (N = NT ∧ rf = RF0 ∧ a0 = 0 ∧ Ob NT a1 1) ∧ ∃ R : Int32 → LGt → ITt → Prop, w_X8_isBeyond a1 a2 R  lg it ∧ ∀ v lg' it', R v lg' it' → K (some (.int v)) lg' it' RF0 | _ => False
def T_X8_isBeyond : Tab := (FL_X8, CL_X8, JL_X8, [(84, 0, 2, 1, 0, sp_X1_become), (88, 0, 2, 1, 0, sp_X1_becomeWhole), (92, 0, 2, 1, 0, sp_X1_lessF)], 99, (some .boolean))
def rm_X8_isBeyond : Room := { frames := 2, cells := 0, slots := 0, locals := 58 }
set_option maxRecDepth 100000 in
theorem bd_X8_isBeyond (as : List Value) (N : Nat) (lg : LGt) (it : ITt) (rf : RFt) (Q : Post) (h : sp_X8_isBeyond as N lg it rf Q) : Bd T_X8_isBeyond cX8_isBeyond 3 0 as N lg it rf Q := by
  unfold sp_X8_isBeyond at h
  split at h
  · rename_i a0 a1 a2
    refine ⟨Nat.le_of_ble_eq_true rfl, fun P hs hw hf => ?_⟩
    obtain ⟨⟨rfl, rfl, rfl, ha1⟩, R, h, hk⟩ := h
    unfold w_X8_isBeyond at h
    exact gs (P := P) [.ref 0, .ref a1, .int a2] rfl (hs dX8_isBeyond_0 (hs dX8_isBeyond_1 (And.intro (fun c => have h1 := And.left h c; hs dX8_isBeyond_19 (hs dX8_isBeyond_20 (And.intro (oq_0) (gr (P := P) (rq_0_7) (hs dX8_isBeyond_23 ((have hc5 := And.left h1; have h6 := And.right h1; hs dX8_isBeyond_24 (And.intro (oq_486) (And.intro (((And.intro (oq_486) ((And.intro (ha1) (hc5)))))) (n0 (P := P) (gmb (P := P) (fun lg3 it4 e1 e2 => have h7 := h6 lg3 e1 it4 e2; hs dX8_isBeyond_27 (hs dX8_isBeyond_28 (And.intro (oq_0) (gr (P := P) (rq_0_9) (hs dX8_isBeyond_31 (hs dX8_isBeyond_34 (And.intro (oq_488) (And.intro (oq_488) (n0 (P := P) (gmb (P := P) (fun lg8 it9 e1 e2 => have h10 := h7 lg8 e1 it9 e2; hs dX8_isBeyond_37 (hs dX8_isBeyond_38 (And.intro (oq_0) (gr (P := P) (rq_0_7) (hs dX8_isBeyond_41 (hs dX8_isBeyond_42 (And.intro (oq_0) (gr (P := P) (rq_0_9) (hs dX8_isBeyond_45 (And.intro (oq_486) (And.intro (((And.intro (rfl) ((And.intro (rfl) ((And.intro (oq_486) (oq_488)))))))) (n0 (P := P) (gmb (P := P) (fun lg12 it13 e1 e2 => let q11 : FV := fLess (fv lg8 it9 486) (fv lg8 it9 488); have h14 := h10 q11 rfl lg12 e1 it13 e2; hs dX8_isBeyond_48 (hs dX8_isBeyond_49 (And.intro (oq_0) (gr (P := P) (rq_0_7) (hs dX8_isBeyond_52 (And.intro (oq_486) (hs dX8_isBeyond_55 (And.intro (fun c => have h15 := And.left h14 c; hs dX8_isBeyond_70 (gx (P := P) ki_1 (hs dX8_isBeyond_71 (hs dX8_isBeyond_75 (And.intro rfl (And.intro rfl (And.intro (by decide) (hk _ _ _ h15)))))))) (fun c => have h16 := And.right h14 c; hs dX8_isBeyond_58 (hs dX8_isBeyond_59 (And.intro (oq_0) (gr (P := P) (rq_0_7) (hs dX8_isBeyond_62 (And.intro (oq_486) (hs dX8_isBeyond_65 (gxl (P := P) kl_0 (hs dX8_isBeyond_66 (hs dX8_isBeyond_67 (And.intro (fun c => have h17 := And.left h16 ((lg_cmp_le _ _).mp c); hs dX8_isBeyond_74 (gx (P := P) ki_0 (hs dX8_isBeyond_75 (And.intro rfl (And.intro rfl (And.intro (by decide) (hk _ _ _ h17))))))) (fun c => have h18 := And.right h16 (fun q => c ((lg_cmp_le _ _).mpr q)); hs dX8_isBeyond_70 (gx (P := P) ki_1 (hs dX8_isBeyond_71 (hs dX8_isBeyond_75 (And.intro rfl (And.intro rfl (And.intro (by decide) (hk _ _ _ h18))))))))))))))))))))))))))))))))))))))))))))))))))))))))))))) (fun c => have h2 := And.right h c; hs dX8_isBeyond_4 (hs dX8_isBeyond_5 (And.intro (ha1) (hs dX8_isBeyond_8 (gxl (P := P) kl_0 (hs dX8_isBeyond_9 (hs dX8_isBeyond_10 (And.intro (fun c => have h19 := And.left h2 ((lg_cmp_ge _ _).mp c); hs dX8_isBeyond_17 (gx (P := P) ki_0 (hs dX8_isBeyond_18 (And.intro rfl (And.intro rfl (And.intro (by decide) (hk _ _ _ h19))))))) (fun c => have h20 := And.right h2 (fun q => c ((lg_cmp_ge _ _).mpr q)); hs dX8_isBeyond_13 (gx (P := P) ki_1 (hs dX8_isBeyond_14 (hs dX8_isBeyond_18 (And.intro rfl (And.intro rfl (And.intro (by decide) (hk _ _ _ h20)))))))))))))))))))
  · exact h.elim
theorem ct_X8_isBeyond {E : Ev} {l : Launch} : CT E l yX8_isBeyond (wsY yX8_isBeyond cX8_isBeyond 3 (some .boolean)) rm_X8_isBeyond 0 sp_X8_isBeyond := ct_of (T := T_X8_isBeyond) (own := RX8) (by decide) rfl (fun ci h10 hc => by have h2 : (99 : Nat) = ci := Nat.eq_of_beq_eq_true hc; omega) ⟨rfl, rfl⟩ ⟨fok_X8, clok_X8, jok_X8, List.forall_mem_cons.mpr ⟨cok_V ct_X1_become (by decide) rfl ml_X8_84 im_X1_become se_X1_become co_X1_become mo_X1_become (by decide), List.forall_mem_cons.mpr ⟨cok_V ct_X1_becomeWhole (by decide) rfl ml_X8_88 im_X1_becomeWhole se_X1_becomeWhole co_X1_becomeWhole mo_X1_becomeWhole (by decide), List.forall_mem_cons.mpr ⟨cok_V ct_X1_lessF (by decide) rfl ml_X8_92 im_X1_less se_X1_less co_X1_less mo_X1_less (by decide), fun _ h => absurd h List.not_mem_nil⟩⟩⟩⟩ bd_X8_isBeyond
def w_X8_isAnyBeyond_b2 (a1 : Nat) (a2 : Int32) (K : Int32 → LGt → ITt → Prop)  : Nat → Int32 → LGt → ITt → Prop
  | 0, _, _, _ => False
  | n2 + 1, x3, lg, it => (((it a1 0) ≤ x3) → (K (0 : Int32) lg it)) ∧ ((¬ (it a1 0) ≤ x3) → ((vp_in x3 6) ∧ (∃ R5 : Int32 → LGt → ITt → Prop, (w_X8_isBeyond (a1 + 4 + 2 * x3.toNatClampNeg) a2 R5  lg it) ∧ ∀ (v6 : Int32) (lg7 : LGt) (it8 : ITt), R5 v6 lg7 it8 → (((v6 = 0) → ((w_X8_isAnyBeyond_b2 a1 a2 K  n2) (x3 + 1) lg7 it8)) ∧ ((¬ v6 = 0) → (K (1 : Int32) lg7 it8))))))
def w_X8_isAnyBeyond (a1 : Nat) (a2 : Int32) (K : Int32 → LGt → ITt → Prop)  (lg : LGt) (it : ITt) : Prop := ∃ n2, w_X8_isAnyBeyond_b2 a1 a2 K  n2 (0 : Int32) lg it
def sp_X8_isAnyBeyond : Spc := fun as N lg it rf K => match as with | [.ref a0, .ref a1, .int a2] => (N = NT ∧ rf = RF0 ∧ a0 = 0 ∧ a1 ∈ rb) ∧ ∃ R : Int32 → LGt → ITt → Prop, w_X8_isAnyBeyond a1 a2 R  lg it ∧ ∀ v lg' it', R v lg' it' → K (some (.int v)) lg' it' RF0 | _ => False
def T_X8_isAnyBeyond : Tab := (FL_X8, CL_X8, JL_X8, [(291, 0, 3, 8, 0, sp_X8_isBeyond)], 99, (some .boolean))
def rm_X8_isAnyBeyond : Room := { frames := 3, cells := 0, slots := 0, locals := 80 }
set_option maxRecDepth 100000 in
theorem bd_X8_isAnyBeyond (as : List Value) (N : Nat) (lg : LGt) (it : ITt) (rf : RFt) (Q : Post) (h : sp_X8_isAnyBeyond as N lg it rf Q) : Bd T_X8_isAnyBeyond cX8_isAnyBeyond 4 0 as N lg it rf Q := by
  unfold sp_X8_isAnyBeyond at h
  split at h
  · rename_i a0 a1 a2
    refine ⟨Nat.le_of_ble_eq_true rfl, fun P hs hw hf => ?_⟩
    obtain ⟨⟨rfl, rfl, rfl, ha1⟩, R, h, hk⟩ := h
    have b2 : ∀  (n : Nat)  (x3 : Int32) (lg : LGt) (it : ITt), w_X8_isAnyBeyond_b2 a1 a2 R  n x3 lg it → P 2 [.ref 0, .ref a1, .int a2, .int x3] [] NT lg it RF0 := by
      intro n
      induction n with
      | zero =>
        intro x3 lg it h
        exact h.elim
      | succ n ih =>
        intro x3 lg it h
        unfold w_X8_isAnyBeyond_b2 at h
        exact (hs dX8_isAnyBeyond_2 (hs dX8_isAnyBeyond_3 (hs dX8_isAnyBeyond_4 (And.intro (obr ha1) (hs dX8_isAnyBeyond_7 (And.intro (fun c => have h1 := And.left h c; hs dX8_isAnyBeyond_32 (gx (P := P) ki_0 (hs dX8_isAnyBeyond_33 (And.intro rfl (And.intro rfl (And.intro (by decide) (hk _ _ _ h1))))))) (fun c => have h2 := And.right h c; hs dX8_isAnyBeyond_10 (hs dX8_isAnyBeyond_11 (hs dX8_isAnyBeyond_12 (And.intro (obr ha1) (gr (P := P) (rr2 ha1) (hs dX8_isAnyBeyond_15 ((have hi3 := And.left h2; have h4 := And.right h2; hs dX8_isAnyBeyond_16 (And.intro (oba13 (rob ha1 2 (by decide) rfl)) (And.intro (vin (rln ha1 2 (by decide)) hi3) (grv (P := P) (re4 ha1 (vlt (hi3))) (hs dX8_isAnyBeyond_17 (Exists.elim h4 (fun R5 h9 => hs dX8_isAnyBeyond_18 (And.intro (oq_0) (And.intro (And.intro rfl (And.intro rfl ((And.intro (rfl) ((rpo4 ha1 (vlt (hi3)))))))) (Exists.intro R5 (And.intro (And.left h9) (fun v6 lg7 it8 hq => have h11 := And.right h9 _ _ _ hq; n0 (P := P) (hs dX8_isAnyBeyond_21 (And.intro (fun c => have h12 := And.left h11 c; hs dX8_isAnyBeyond_26 (gi1 (P := P) (gs (P := P) [.ref 0, .ref a1, .int a2, .int (x3 + 1)] rfl (hs dX8_isAnyBeyond_29 (hf [.ref 0, .ref a1, .int a2, .int (x3 + 1)] ⟨Or.inr rfl, ⟨Or.inr rfl, ⟨Or.inr rfl, ⟨Or.inr rfl, trivial⟩⟩⟩⟩ (ih  _ _ _  h12)))))) (fun c => have h13 := And.right h11 c; hs dX8_isAnyBeyond_24 (gx (P := P) ki_1 (hs dX8_isAnyBeyond_25 (And.intro rfl (And.intro rfl (And.intro (by decide) (hk _ _ _ h13))))))))))))))))))))))))))))))))))
    unfold w_X8_isAnyBeyond at h
    exact gs (P := P) [.ref 0, .ref a1, .int a2, uu] rfl (hs dX8_isAnyBeyond_0 (gx (P := P) ki_0 (hs dX8_isAnyBeyond_1 (gs (P := P) [.ref 0, .ref a1, .int a2, .int 0] rfl (hf [.ref 0, .ref a1, .int a2, .int 0] ⟨Or.inr rfl, ⟨Or.inr rfl, ⟨Or.inr rfl, ⟨Or.inr rfl, trivial⟩⟩⟩⟩ (Exists.elim h (fun n h => b2  n  _ _ _  h)))))))
  · exact h.elim
theorem ct_X8_isAnyBeyond {E : Ev} {l : Launch} : CT E l yX8_isAnyBeyond (wsY yX8_isAnyBeyond cX8_isAnyBeyond 4 (some .boolean)) rm_X8_isAnyBeyond 0 sp_X8_isAnyBeyond := ct_of (T := T_X8_isAnyBeyond) (own := RX8) (by decide) rfl (fun ci h10 hc => by have h2 : (99 : Nat) = ci := Nat.eq_of_beq_eq_true hc; omega) ⟨rfl, rfl⟩ ⟨fok_X8, clok_X8, jok_X8, List.forall_mem_cons.mpr ⟨cok_V ct_X8_isBeyond (by decide) rfl ml_X8_291 im_X8_isBeyond se_X8_isBeyond co_X8_isBeyond mo_X8_isBeyond (by decide), fun _ h => absurd h List.not_mem_nil⟩⟩ bd_X8_isAnyBeyond
def w_X8_addUp_b49 (a1 : Nat) (a2 : Int32) (K : LGt → ITt → Prop) (C10 : Int32 → LGt → ITt → Prop) (x3 : Int32) (lg : LGt) (it : ITt) : Prop := (vp_in x3 6) ∧ ((∀ (lg23 : LGt), lg23 = sL lg 488 (it (a1 + 1) x3.toNatClampNeg).toInt64 1 → ∀ (it24 : ITt), it24 = sI it 488 2 0 → (∀ (q26 : FV), q26 = fTimes (fv lg23 it24 487) (fv lg23 it24 488) → ∀ (lg27 : LGt), lg27 = sL lg23 487 q26.1 q26.2.1 → ∀ (it28 : ITt), it28 = sI it24 487 2 q26.2.2 → (∀ (q30 : FV), q30 = fPlus (fv lg27 it28 486) (fv lg27 it28 487) → ∀ (lg31 : LGt), lg31 = sL lg27 486 q30.1 q30.2.1 → ∀ (it32 : ITt), it32 = sI it28 486 2 q30.2.2 → C10 (x3 + 1) lg31 it32))))
def w_X8_addUp_b10 (a1 : Nat) (a2 : Int32) (K : LGt → ITt → Prop)  : Nat → Int32 → LGt → ITt → Prop
  | 0, _, _, _ => False
  | n10 + 1, x3, lg, it => (((it a1 0) ≤ x3) → (K lg it)) ∧ ((¬ (it a1 0) ≤ x3) → ((vp_in x3 6) ∧ ((it (a1 + 5 + 2 * x3.toNatClampNeg) 2 &&& 1 = it (a1 + 5 + 2 * x3.toNatClampNeg) 2) ∧ (∀ (lg8 : LGt), lg8 = sL lg 487 (lg (a1 + 5 + 2 * x3.toNatClampNeg) 0) (lg (a1 + 5 + 2 * x3.toNatClampNeg) 1) → ∀ (it9 : ITt), it9 = sI it 487 2 (it (a1 + 5 + 2 * x3.toNatClampNeg) 2) → ((¬ a2 = 1) → (w_X8_addUp_b49 a1 a2 K (w_X8_addUp_b10 a1 a2 K  n10) x3 lg8 it9)) ∧ ((a2 = 1) → ((vp_in x3 6) ∧ ((∀ (q17 : FV), q17 = fTimes (fv lg8 it9 487) (fv lg8 it9 (a1 + 5 + 2 * x3.toNatClampNeg)) → ∀ (lg18 : LGt), lg18 = sL lg8 487 q17.1 q17.2.1 → ∀ (it19 : ITt), it19 = sI it9 487 2 q17.2.2 → w_X8_addUp_b49 a1 a2 K (w_X8_addUp_b10 a1 a2 K  n10) x3 lg18 it19))))))))
def w_X8_addUp (a1 : Nat) (a2 : Int32) (K : LGt → ITt → Prop)  (lg : LGt) (it : ITt) : Prop := (∀ (lg1 : LGt), lg1 = sL lg 486 (0 : Int64) 1 → ∀ (it2 : ITt), it2 = sI it 486 2 0 → ∃ n10, w_X8_addUp_b10 a1 a2 K  n10 (0 : Int32) lg1 it2)
def sp_X8_addUp : Spc := fun as N lg it rf K => match as with | [.ref a0, .ref a1, .int a2] => (N = NT ∧ rf = RF0 ∧ a0 = 0 ∧ a1 ∈ rb) ∧ ∃ R : LGt → ITt → Prop, w_X8_addUp a1 a2 R  lg it ∧ ∀ lg' it', R lg' it' → K none lg' it' RF0 | _ => False
def T_X8_addUp : Tab := (FL_X8, CL_X8, JL_X8, [(88, 0, 2, 1, 0, sp_X1_becomeWhole), (84, 0, 2, 1, 0, sp_X1_become), (217, 0, 2, 1, 0, sp_X1_timesF), (219, 0, 2, 1, 0, sp_X1_plusF)], 99, none)
def rm_X8_addUp : Room := { frames := 2, cells := 0, slots := 0, locals := 58 }
set_option maxRecDepth 100000 in
theorem bd_X8_addUp (as : List Value) (N : Nat) (lg : LGt) (it : ITt) (rf : RFt) (Q : Post) (h : sp_X8_addUp as N lg it rf Q) : Bd T_X8_addUp cX8_addUp 4 0 as N lg it rf Q := by
  unfold sp_X8_addUp at h
  split at h
  · rename_i a0 a1 a2
    refine ⟨Nat.le_of_ble_eq_true rfl, fun P hs hw hf => ?_⟩
    obtain ⟨⟨rfl, rfl, rfl, ha1⟩, R, h, hk⟩ := h
    have b49 : ∀ (C10 : Int32 → LGt → ITt → Prop) (c10 : ∀  (x3 : Int32) (lg : LGt) (it : ITt), C10 x3 lg it → P 10 [.ref 0, .ref a1, .int a2, .int x3] [] NT lg it RF0)  (x3 : Int32) (lg : LGt) (it : ITt), w_X8_addUp_b49 a1 a2 R C10 x3 lg it → P 49 [.ref 0, .ref a1, .int a2, .int x3] [] NT lg it RF0 := by
      intro C10 c10 x3 lg it h
      unfold w_X8_addUp_b49 at h
      exact (hs dX8_addUp_49 (hs dX8_addUp_50 (And.intro (oq_0) (gr (P := P) (rq_0_9) (hs dX8_addUp_53 (hs dX8_addUp_54 (And.intro (obr ha1) (gr (P := P) (rr1 ha1) (hs dX8_addUp_57 ((have hi21 := And.left h; have h22 := And.right h; hs dX8_addUp_58 (And.intro (rob ha1 1 (by decide) rfl) (And.intro (vin (rln ha1 1 (by decide)) hi21) ((hs dX8_addUp_59 (hs dX8_addUp_60 (And.intro (oq_488) (And.intro (oq_488) (n0 (P := P) (gmb (P := P) (fun lg23 it24 e1 e2 => have h25 := h22 lg23 e1 it24 e2; hs dX8_addUp_63 (hs dX8_addUp_64 (And.intro (oq_0) (gr (P := P) (rq_0_8) (hs dX8_addUp_67 (hs dX8_addUp_68 (And.intro (oq_0) (gr (P := P) (rq_0_9) (hs dX8_addUp_71 (And.intro (oq_487) (And.intro (((And.intro (rfl) ((And.intro (rfl) ((And.intro (oq_487) (oq_488)))))))) (n0 (P := P) (gmb (P := P) (fun lg27 it28 e1 e2 => let q26 : FV := fTimes (fv lg23 it24 487) (fv lg23 it24 488); have h29 := h25 q26 rfl lg27 e1 it28 e2; hs dX8_addUp_74 (hs dX8_addUp_75 (And.intro (oq_0) (gr (P := P) (rq_0_7) (hs dX8_addUp_78 (hs dX8_addUp_79 (And.intro (oq_0) (gr (P := P) (rq_0_8) (hs dX8_addUp_82 (And.intro (oq_486) (And.intro (((And.intro (rfl) ((And.intro (rfl) ((And.intro (oq_486) (oq_487)))))))) (n0 (P := P) (gmb (P := P) (fun lg31 it32 e1 e2 => let q30 : FV := fPlus (fv lg27 it28 486) (fv lg27 it28 487); have h33 := h29 q30 rfl lg31 e1 it32 e2; hs dX8_addUp_85 (gi1 (P := P) (gs (P := P) [.ref 0, .ref a1, .int a2, .int (x3 + 1)] rfl (hs dX8_addUp_88 (hf [.ref 0, .ref a1, .int a2, .int (x3 + 1)] ⟨Or.inr rfl, ⟨Or.inr rfl, ⟨Or.inr rfl, ⟨Or.inr rfl, trivial⟩⟩⟩⟩ (c10  _ _ _  h33))))))))))))))))))))))))))))))))))))))))))))))))))))
    have b10 : ∀  (n : Nat)  (x3 : Int32) (lg : LGt) (it : ITt), w_X8_addUp_b10 a1 a2 R  n x3 lg it → P 10 [.ref 0, .ref a1, .int a2, .int x3] [] NT lg it RF0 := by
      intro n
      induction n with
      | zero =>
        intro x3 lg it h
        exact h.elim
      | succ n ih =>
        intro x3 lg it h
        unfold w_X8_addUp_b10 at h
        exact (hs dX8_addUp_10 (hs dX8_addUp_11 (hs dX8_addUp_12 (And.intro (obr ha1) (hs dX8_addUp_15 (And.intro (fun c => have h4 := And.left h c; hs dX8_addUp_91 (And.intro rfl (And.intro rfl (hk _ _ h4)))) (fun c => have h5 := And.right h c; hs dX8_addUp_18 (hs dX8_addUp_19 (And.intro (oq_0) (gr (P := P) (rq_0_8) (hs dX8_addUp_22 (hs dX8_addUp_23 (And.intro (obr ha1) (gr (P := P) (rr3 ha1) (hs dX8_addUp_26 ((have hi6 := And.left h5; have h7 := And.right h5; hs dX8_addUp_27 (And.intro (oba13 (rob ha1 3 (by decide) rfl)) (And.intro (vin (rln ha1 3 (by decide)) hi6) (grv (P := P) (re5 ha1 (vlt (hi6))) ((have hc10 := And.left h7; have h11 := And.right h7; hs dX8_addUp_28 (And.intro (oq_487) (And.intro (((And.intro (oq_487) ((And.intro ((rpo5 ha1 (vlt (hi6)))) (hc10)))))) (n0 (P := P) (gmb (P := P) (fun lg8 it9 e1 e2 => have h12 := h11 lg8 e1 it9 e2; hs dX8_addUp_31 (hs dX8_addUp_32 (gx (P := P) ki_1 (hs dX8_addUp_33 (And.intro (fun c => have h13 := And.left h12 c; hf [.ref 0, .ref a1, .int a2, .int x3] ⟨Or.inr rfl, ⟨Or.inr rfl, ⟨Or.inr rfl, ⟨Or.inr rfl, trivial⟩⟩⟩⟩ (b49 _ ih  _ _ _  h13)) (fun c => have h14 := And.right h12 c; hs dX8_addUp_36 (hs dX8_addUp_37 (And.intro (oq_0) (gr (P := P) (rq_0_8) (hs dX8_addUp_40 (hs dX8_addUp_41 (And.intro (obr ha1) (gr (P := P) (rr3 ha1) (hs dX8_addUp_44 ((have hi15 := And.left h14; have h16 := And.right h14; hs dX8_addUp_45 (And.intro (oba13 (rob ha1 3 (by decide) rfl)) (And.intro (vin (rln ha1 3 (by decide)) hi15) (grv (P := P) (re5 ha1 (vlt (hi15))) (hs dX8_addUp_46 (And.intro (oq_487) (And.intro (((And.intro (rfl) ((And.intro (rfl) ((And.intro (oq_487) ((rpo5 ha1 (vlt (hi15))))))))))) (n0 (P := P) (gmb (P := P) (fun lg18 it19 e1 e2 => let q17 : FV := fTimes (fv lg8 it9 487) (fv lg8 it9 (a1 + 5 + 2 * x3.toNatClampNeg)); have h20 := h16 q17 rfl lg18 e1 it19 e2; hf [.ref 0, .ref a1, .int a2, .int x3] ⟨Or.inr rfl, ⟨Or.inr rfl, ⟨Or.inr rfl, ⟨Or.inr rfl, trivial⟩⟩⟩⟩ (b49 _ ih  _ _ _  h20))))))))))))))))))))))))))))))))))))))))))))))))))))
    unfold w_X8_addUp at h
    exact gs (P := P) [.ref 0, .ref a1, .int a2, uu] rfl (hs dX8_addUp_0 (hs dX8_addUp_1 (And.intro (oq_0) (gr (P := P) (rq_0_7) (hs dX8_addUp_4 (gxl (P := P) kl_0 (hs dX8_addUp_5 (And.intro (oq_486) (And.intro (oq_486) (n0 (P := P) (gmb (P := P) (fun lg1 it2 e1 e2 => have h3 := h lg1 e1 it2 e2; hs dX8_addUp_8 (gx (P := P) ki_0 (hs dX8_addUp_9 (gs (P := P) [.ref 0, .ref a1, .int a2, .int 0] rfl (hf [.ref 0, .ref a1, .int a2, .int 0] ⟨Or.inr rfl, ⟨Or.inr rfl, ⟨Or.inr rfl, ⟨Or.inr rfl, trivial⟩⟩⟩⟩ (Exists.elim h3 (fun n h => b10  n  _ _ _  h))))))))))))))))))
  · exact h.elim
theorem ct_X8_addUp {E : Ev} {l : Launch} : CT E l yX8_addUp (wsY yX8_addUp cX8_addUp 4 none) rm_X8_addUp 0 sp_X8_addUp := ct_of (T := T_X8_addUp) (own := RX8) (by decide) rfl (fun ci h10 hc => by have h2 : (99 : Nat) = ci := Nat.eq_of_beq_eq_true hc; omega) ⟨rfl, rfl⟩ ⟨fok_X8, clok_X8, jok_X8, List.forall_mem_cons.mpr ⟨cok_V ct_X1_becomeWhole (by decide) rfl ml_X8_88 im_X1_becomeWhole se_X1_becomeWhole co_X1_becomeWhole mo_X1_becomeWhole (by decide), List.forall_mem_cons.mpr ⟨cok_V ct_X1_become (by decide) rfl ml_X8_84 im_X1_become se_X1_become co_X1_become mo_X1_become (by decide), List.forall_mem_cons.mpr ⟨cok_V ct_X1_timesF (by decide) rfl ml_X8_217 im_X1_times se_X1_times co_X1_times mo_X1_times (by decide), List.forall_mem_cons.mpr ⟨cok_V ct_X1_plusF (by decide) rfl ml_X8_219 im_X1_plus se_X1_plus co_X1_plus mo_X1_plus (by decide), fun _ h => absurd h List.not_mem_nil⟩⟩⟩⟩⟩ bd_X8_addUp
def w_X8_takesPart (a1 : Int32) (a2 : Int32) (K : Int32 → LGt → ITt → Prop)  (lg : LGt) (it : ITt) : Prop := ((¬ a2 = 0) → (((¬ a2 = 9) → (((a1 = (a2 - 1)) → (K (1 : Int32) lg it)) ∧ ((¬ a1 = (a2 - 1)) → (((¬ a1 = a2) → (K (0 : Int32) lg it)) ∧ ((a1 = a2) → (K (1 : Int32) lg it)))))) ∧ ((a2 = 9) → (((¬ a1 = ((it 2 0) - 1)) → (K (0 : Int32) lg it)) ∧ ((a1 = ((it 2 0) - 1)) → (K (1 : Int32) lg it)))))) ∧ ((a2 = 0) → (((¬ a1 = 0) → (K (0 : Int32) lg it)) ∧ ((a1 = 0) → (K (1 : Int32) lg it))))
def sp_X8_takesPart : Spc := fun as N lg it rf K => match as with | [.ref a0, .int a1, .int a2] => (N = NT ∧ rf = RF0 ∧ a0 = 0) ∧ ∃ R : Int32 → LGt → ITt → Prop, w_X8_takesPart a1 a2 R  lg it ∧ ∀ v lg' it', R v lg' it' → K (some (.int v)) lg' it' RF0 | _ => False
def T_X8_takesPart : Tab := (FL_X8, CL_X8, JL_X8, [], 99, (some .boolean))
def rm_X8_takesPart : Room := { frames := 0, cells := 0, slots := 0, locals := 0 }
set_option maxRecDepth 100000 in
theorem bd_X8_takesPart (as : List Value) (N : Nat) (lg : LGt) (it : ITt) (rf : RFt) (Q : Post) (h : sp_X8_takesPart as N lg it rf Q) : Bd T_X8_takesPart cX8_takesPart 3 0 as N lg it rf Q := by
  unfold sp_X8_takesPart at h
  split at h
  · rename_i a0 a1 a2
    refine ⟨Nat.le_of_ble_eq_true rfl, fun P hs hw hf => ?_⟩
    obtain ⟨⟨rfl, rfl, rfl⟩, R, h, hk⟩ := h
    unfold w_X8_takesPart at h
    exact gs (P := P) [.ref 0, .int a1, .int a2] rfl (hs dX8_takesPart_0 (hs dX8_takesPart_1 (And.intro (fun c => have h1 := And.left h c; hs dX8_takesPart_14 (hs dX8_takesPart_15 (gx (P := P) kb_9 (hs dX8_takesPart_17 (And.intro (fun c => have h3 := And.left h1 c; hs dX8_takesPart_42 (hs dX8_takesPart_43 (hs dX8_takesPart_44 (gx (P := P) ki_1 (hs dX8_takesPart_45 (hs dX8_takesPart_46 (And.intro (fun c => have h5 := And.left h3 c; hs dX8_takesPart_54 (gx (P := P) ki_1 (hs dX8_takesPart_55 (hs dX8_takesPart_59 (And.intro rfl (And.intro rfl (And.intro (by decide) (hk _ _ _ h5)))))))) (fun c => have h6 := And.right h3 c; hs dX8_takesPart_49 (hs dX8_takesPart_50 (hs dX8_takesPart_51 (And.intro (fun c => have h7 := And.left h6 c; hs dX8_takesPart_58 (gx (P := P) ki_0 (hs dX8_takesPart_59 (And.intro rfl (And.intro rfl (And.intro (by decide) (hk _ _ _ h7))))))) (fun c => have h8 := And.right h6 c; hs dX8_takesPart_54 (gx (P := P) ki_1 (hs dX8_takesPart_55 (hs dX8_takesPart_59 (And.intro rfl (And.intro rfl (And.intro (by decide) (hk _ _ _ h8))))))))))))))))))) (fun c => have h4 := And.right h1 c; hs dX8_takesPart_20 (hs dX8_takesPart_21 (hs dX8_takesPart_22 (And.intro (oq_0) (gr (P := P) (rq_0_0) (hs dX8_takesPart_25 (And.intro (oq_1) (gr (P := P) (rq_1_0) (hs dX8_takesPart_28 (And.intro (oq_2) (hs dX8_takesPart_31 (gx (P := P) ki_1 (hs dX8_takesPart_32 (hs dX8_takesPart_33 (And.intro (fun c => have h9 := And.left h4 c; hs dX8_takesPart_40 (gx (P := P) ki_0 (hs dX8_takesPart_41 (And.intro rfl (And.intro rfl (And.intro (by decide) (hk _ _ _ h9))))))) (fun c => have h10 := And.right h4 c; hs dX8_takesPart_36 (gx (P := P) ki_1 (hs dX8_takesPart_37 (hs dX8_takesPart_41 (And.intro rfl (And.intro rfl (And.intro (by decide) (hk _ _ _ h10)))))))))))))))))))))))))))) (fun c => have h2 := And.right h c; hs dX8_takesPart_4 (hs dX8_takesPart_5 (And.intro (fun c => have h11 := And.left h2 c; hs dX8_takesPart_12 (gx (P := P) ki_0 (hs dX8_takesPart_13 (And.intro rfl (And.intro rfl (And.intro (by decide) (hk _ _ _ h11))))))) (fun c => have h12 := And.right h2 c; hs dX8_takesPart_8 (gx (P := P) ki_1 (hs dX8_takesPart_9 (hs dX8_takesPart_13 (And.intro rfl (And.intro rfl (And.intro (by decide) (hk _ _ _ h12))))))))))))))
  · exact h.elim
theorem ct_X8_takesPart {E : Ev} {l : Launch} : CT E l yX8_takesPart (wsY yX8_takesPart cX8_takesPart 3 (some .boolean)) rm_X8_takesPart 0 sp_X8_takesPart := ct_of (T := T_X8_takesPart) (own := RX8) (by decide) rfl (fun ci h10 hc => by have h2 : (99 : Nat) = ci := Nat.eq_of_beq_eq_true hc; omega) ⟨rfl, rfl⟩ ⟨fok_X8, clok_X8, jok_X8, fun _ h => absurd h List.not_mem_nil⟩ bd_X8_takesPart
def w_X8_lastStopBy_b18 (a1 : Int32) (K : Int32 → LGt → ITt → Prop)  : Nat → Int32 → LGt → ITt → Prop
  | 0, _, _, _ => False
  | n18 + 1, x2, lg, it => (((it 55 3) ≤ x2) → (((¬ (it 55 4) = 0) → (K ((-1) : Int32) lg it)) ∧ (((it 55 4) = 0) → (K (it 55 3) lg it)))) ∧ ((¬ (it 55 3) ≤ x2) → ((∀ (lg12 : LGt), lg12 = sL lg 486 a1.toInt64 1 → ∀ (it13 : ITt), it13 = sI it 486 2 0 → (vp_in (x2 + 1) 21) ∧ ((∀ (q17 : FV), q17 = fLess (fv lg12 it13 486) (fv lg12 it13 (75 + 18 * (x2 + 1).toNatClampNeg)) → ∀ (lg18 : LGt), lg18 = sL lg12 486 q17.1 q17.2.1 → ∀ (it19 : ITt), it19 = sI it13 486 2 q17.2.2 → (((it19 486 2) = 0) → (((0 ≤ (lg18 486 0)) → ((w_X8_lastStopBy_b18 a1 K  n18) (x2 + 1) lg18 it19)) ∧ ((¬ 0 ≤ (lg18 486 0)) → (K x2 lg18 it19)))) ∧ ((¬ (it19 486 2) = 0) → (K ((-1) : Int32) lg18 it19)))))))
def w_X8_lastStopBy (a1 : Int32) (K : Int32 → LGt → ITt → Prop)  (lg : LGt) (it : ITt) : Prop := ∃ R1 : LGt → ITt → Prop, (w_X0_work 2 (20 : Int32) R1  lg it) ∧ ∀ (lg3 : LGt) (it4 : ITt), R1 lg3 it4 → (∃ n18, w_X8_lastStopBy_b18 a1 K  n18 (0 : Int32) lg3 it4)
def sp_X8_lastStopBy : Spc := fun as N lg it rf K => match as with | [.ref a0, .int a1] => (N = NT ∧ rf = RF0 ∧ a0 = 0) ∧ ∃ R : Int32 → LGt → ITt → Prop, w_X8_lastStopBy a1 R  lg it ∧ ∀ v lg' it', R v lg' it' → K (some (.int v)) lg' it' RF0 | _ => False
def T_X8_lastStopBy : Tab := (FL_X8, CL_X8, JL_X8, [(129, 0, 3, 0, 0, sp_X0_work), (88, 0, 2, 1, 0, sp_X1_becomeWhole), (92, 0, 2, 1, 0, sp_X1_lessF)], 99, (some .int))
def rm_X8_lastStopBy : Room := { frames := 5, cells := 0, slots := 0, locals := 133 }
set_option maxRecDepth 100000 in
theorem bd_X8_lastStopBy (as : List Value) (N : Nat) (lg : LGt) (it : ITt) (rf : RFt) (Q : Post) (h : sp_X8_lastStopBy as N lg it rf Q) : Bd T_X8_lastStopBy cX8_lastStopBy 3 0 as N lg it rf Q := by
  unfold sp_X8_lastStopBy at h
  split at h
  · rename_i a0 a1
    refine ⟨Nat.le_of_ble_eq_true rfl, fun P hs hw hf => ?_⟩
    obtain ⟨⟨rfl, rfl, rfl⟩, R, h, hk⟩ := h
    have b18 : ∀  (n : Nat)  (x2 : Int32) (lg : LGt) (it : ITt), w_X8_lastStopBy_b18 a1 R  n x2 lg it → P 18 [.ref 0, .int a1, .int x2] [] NT lg it RF0 := by
      intro n
      induction n with
      | zero =>
        intro x2 lg it h
        exact h.elim
      | succ n ih =>
        intro x2 lg it h
        unfold w_X8_lastStopBy_b18 at h
        exact (hs dX8_lastStopBy_18 (hs dX8_lastStopBy_19 (hs dX8_lastStopBy_20 (And.intro (oq_0) (gr (P := P) (rq_0_3) (hs dX8_lastStopBy_23 (And.intro (oq_55) (hs dX8_lastStopBy_26 (And.intro (fun c => have h8 := And.left h c; hs dX8_lastStopBy_88 (hs dX8_lastStopBy_89 (And.intro (oq_0) (gr (P := P) (rq_0_3) (hs dX8_lastStopBy_92 (And.intro (oq_55) (hs dX8_lastStopBy_95 (And.intro (fun c => have h10 := And.left h8 c; hs dX8_lastStopBy_108 (gx (P := P) ki_m1 (hs dX8_lastStopBy_109 (And.intro rfl (And.intro rfl (hk _ _ _ h10)))))) (fun c => have h11 := And.right h8 c; hs dX8_lastStopBy_98 (hs dX8_lastStopBy_99 (And.intro (oq_0) (gr (P := P) (rq_0_3) (hs dX8_lastStopBy_102 (And.intro (oq_55) (hs dX8_lastStopBy_105 (hs dX8_lastStopBy_109 (And.intro rfl (And.intro rfl (hk _ _ _ h11))))))))))))))))))) (fun c => have h9 := And.right h c; hs dX8_lastStopBy_29 (hs dX8_lastStopBy_30 (And.intro (oq_0) (gr (P := P) (rq_0_7) (hs dX8_lastStopBy_33 (hs dX8_lastStopBy_34 (hs dX8_lastStopBy_35 (And.intro (oq_486) (And.intro (oq_486) (n0 (P := P) (gmb (P := P) (fun lg12 it13 e1 e2 => have h14 := h9 lg12 e1 it13 e2; hs dX8_lastStopBy_38 (hs dX8_lastStopBy_39 (And.intro (oq_0) (gr (P := P) (rq_0_7) (hs dX8_lastStopBy_42 (hs dX8_lastStopBy_43 (And.intro (oq_0) (gr (P := P) (rq_0_3) (hs dX8_lastStopBy_46 (And.intro (oq_55) (gr (P := P) (rq_55_1) (hs dX8_lastStopBy_49 (hs dX8_lastStopBy_50 (gx (P := P) ki_1 (hs dX8_lastStopBy_51 ((have hi15 := And.left h14; have h16 := And.right h14; hs dX8_lastStopBy_52 (And.intro (oba13 (oq_57)) (And.intro (vin (lq_57) hi15) (grv (P := P) (rti0 (vlt (hi15))) (hs dX8_lastStopBy_53 (And.intro (oq_486) (And.intro (((And.intro (rfl) ((And.intro (rfl) ((And.intro (oq_486) ((rti (vlt (hi15))))))))))) (n0 (P := P) (gmb (P := P) (fun lg18 it19 e1 e2 => let q17 : FV := fLess (fv lg12 it13 486) (fv lg12 it13 (75 + 18 * (x2 + 1).toNatClampNeg)); have h20 := h16 q17 rfl lg18 e1 it19 e2; hs dX8_lastStopBy_56 (hs dX8_lastStopBy_57 (And.intro (oq_0) (gr (P := P) (rq_0_7) (hs dX8_lastStopBy_60 (And.intro (oq_486) (hs dX8_lastStopBy_63 (And.intro (fun c => have h21 := And.left h20 c; hs dX8_lastStopBy_68 (hs dX8_lastStopBy_69 (And.intro (oq_0) (gr (P := P) (rq_0_7) (hs dX8_lastStopBy_72 (And.intro (oq_486) (hs dX8_lastStopBy_75 (gxl (P := P) kl_0 (hs dX8_lastStopBy_76 (hs dX8_lastStopBy_77 (And.intro (fun c => have h23 := And.left h21 ((lg_cmp_ge _ _).mp c); hs dX8_lastStopBy_82 (gi1 (P := P) (gs (P := P) [.ref 0, .int a1, .int (x2 + 1)] rfl (hs dX8_lastStopBy_85 (hf [.ref 0, .int a1, .int (x2 + 1)] ⟨Or.inr rfl, ⟨Or.inr rfl, ⟨Or.inr rfl, trivial⟩⟩⟩ (ih  _ _ _  h23)))))) (fun c => have h24 := And.right h21 (fun q => c ((lg_cmp_ge _ _).mpr q)); hs dX8_lastStopBy_80 (hs dX8_lastStopBy_81 (And.intro rfl (And.intro rfl (hk _ _ _ h24)))))))))))))))) (fun c => have h22 := And.right h20 c; hs dX8_lastStopBy_66 (gx (P := P) ki_m1 (hs dX8_lastStopBy_67 (And.intro rfl (And.intro rfl (hk _ _ _ h22)))))))))))))))))))))))))))))))))))))))))))))))))))))))))))
    unfold w_X8_lastStopBy at h
    exact gs (P := P) [.ref 0, .int a1, uu] rfl (hs dX8_lastStopBy_0 (hs dX8_lastStopBy_1 (And.intro (oq_0) (gr (P := P) (rq_0_3) (hs dX8_lastStopBy_4 (hs dX8_lastStopBy_5 (And.intro (oq_0) (gr (P := P) (rq_0_0) (hs dX8_lastStopBy_8 (And.intro (oq_1) (gr (P := P) (rq_1_0) (hs dX8_lastStopBy_11 (gx (P := P) kb_20 (Exists.elim h (fun R1 h5 => hs dX8_lastStopBy_13 (And.intro (oq_55) (And.intro (And.intro rfl (And.intro rfl ((And.intro (rfl) (in_rb_2))))) (Exists.intro R1 (And.intro (And.left h5) (fun lg3 it4 hq => have h7 := And.right h5 _ _ hq; n0 (P := P) (hs dX8_lastStopBy_16 (gx (P := P) ki_0 (hs dX8_lastStopBy_17 (gs (P := P) [.ref 0, .int a1, .int 0] rfl (hf [.ref 0, .int a1, .int 0] ⟨Or.inr rfl, ⟨Or.inr rfl, ⟨Or.inr rfl, trivial⟩⟩⟩ (Exists.elim h7 (fun n h => b18  n  _ _ _  h)))))))))))))))))))))))))))
  · exact h.elim
theorem ct_X8_lastStopBy {E : Ev} {l : Launch} : CT E l yX8_lastStopBy (wsY yX8_lastStopBy cX8_lastStopBy 3 (some .int)) rm_X8_lastStopBy 0 sp_X8_lastStopBy := ct_of (T := T_X8_lastStopBy) (own := RX8) (by decide) rfl (fun ci h10 hc => by have h2 : (99 : Nat) = ci := Nat.eq_of_beq_eq_true hc; omega) ⟨rfl, rfl⟩ ⟨fok_X8, clok_X8, jok_X8, List.forall_mem_cons.mpr ⟨cok_V ct_X0_work (by decide) rfl ml_X8_129 im_X0_work se_X0_work co_X0_work mo_X0_work (by decide), List.forall_mem_cons.mpr ⟨cok_V ct_X1_becomeWhole (by decide) rfl ml_X8_88 im_X1_becomeWhole se_X1_becomeWhole co_X1_becomeWhole mo_X1_becomeWhole (by decide), List.forall_mem_cons.mpr ⟨cok_V ct_X1_lessF (by decide) rfl ml_X8_92 im_X1_less se_X1_less co_X1_less mo_X1_less (by decide), fun _ h => absurd h List.not_mem_nil⟩⟩⟩⟩ bd_X8_lastStopBy
def w_X8_addStrike (a0 : Nat) (a1 : Int32) (a2 : Int32) (K : Int32 → LGt → ITt → Prop)  (lg : LGt) (it : ITt) : Prop := ((¬ a1 = (-1)) → (((a1 < 0) → (K ((-1) : Int32) lg it)) ∧ ((¬ a1 < 0) → (((20 ≤ a1) → (K ((-1) : Int32) lg it)) ∧ ((¬ 20 ≤ a1) → ((((0 ≤ (a2).toInt ∧ (a2).toInt ≤ 5) ∨ (a2).toInt = 9) → (∃ R9 : Int32 → LGt → ITt → Prop, (w_X2_add a0 a1 a2 R9  lg it) ∧ ∀ (v10 : Int32) (lg11 : LGt) (it12 : ITt), R9 v10 lg11 it12 → (K v10 lg11 it12))) ∧ ((¬ ((0 ≤ (a2).toInt ∧ (a2).toInt ≤ 5) ∨ (a2).toInt = 9)) → (K ((-1) : Int32) lg it)))))))) ∧ ((a1 = (-1)) → ((∀ (it16 : ITt), it16 = u2 it a0 2 (0 : Int32) → K (0 : Int32) lg it16)))
def sp_X8_addStrike : Spc := fun as N lg it rf K => match as with | [.ref a0, .int a1, .int a2] => (N = NT ∧ rf = RF0 ∧ a0 ∈ pb) ∧ ∃ R : Int32 → LGt → ITt → Prop, w_X8_addStrike a0 a1 a2 R  lg it ∧ ∀ v lg' it', R v lg' it' → K (some (.int v)) lg' it' RF0 | _ => False
def T_X8_addStrike : Tab := (FL_X8, CL_X8, JL_X8, [(310, 1, 1, 0, 0, sp_X8_isWhereF), (252, 0, 3, 2, 0, sp_X2_add)], 99, (some .int))
def rm_X8_addStrike : Room := { frames := 1, cells := 0, slots := 0, locals := 22 }
set_option maxRecDepth 100000 in
theorem bd_X8_addStrike (as : List Value) (N : Nat) (lg : LGt) (it : ITt) (rf : RFt) (Q : Post) (h : sp_X8_addStrike as N lg it rf Q) : Bd T_X8_addStrike cX8_addStrike 3 0 as N lg it rf Q := by
  unfold sp_X8_addStrike at h
  split at h
  · rename_i a0 a1 a2
    refine ⟨Nat.le_of_ble_eq_true rfl, fun P hs hw hf => ?_⟩
    obtain ⟨⟨rfl, rfl, ha0⟩, R, h, hk⟩ := h
    unfold w_X8_addStrike at h
    exact gs (P := P) [.ref a0, .int a1, .int a2] rfl (hs dX8_addStrike_0 (hs dX8_addStrike_1 (gx (P := P) ki_m1 (hs dX8_addStrike_2 (And.intro (fun c => have h1 := And.left h c; hs dX8_addStrike_12 (hs dX8_addStrike_13 (And.intro (fun c => have h3 := And.left h1 c; hs dX8_addStrike_29 (gx (P := P) ki_m1 (hs dX8_addStrike_30 (And.intro rfl (And.intro rfl (hk _ _ _ h3)))))) (fun c => have h4 := And.right h1 c; hs dX8_addStrike_16 (hs dX8_addStrike_17 (gx (P := P) kb_20 (hs dX8_addStrike_19 (And.intro (fun c => have h5 := And.left h4 c; hs dX8_addStrike_29 (gx (P := P) ki_m1 (hs dX8_addStrike_30 (And.intro rfl (And.intro rfl (hk _ _ _ h5)))))) (fun c => have h6 := And.right h4 c; hs dX8_addStrike_22 (hs dX8_addStrike_23 (And.intro (trivial) (And.intro (And.intro rfl rfl) (n0 (P := P) (hs dX8_addStrike_26 (And.intro (fun c => have h7 := And.left h6 (nb2 c); hs dX8_addStrike_31 (hs dX8_addStrike_32 (hs dX8_addStrike_33 (Exists.elim h7 (fun R9 h13 => hs dX8_addStrike_34 (And.intro (obp ha0) (And.intro (And.intro rfl (And.intro rfl (ha0))) (Exists.intro R9 (And.intro (And.left h13) (fun v10 lg11 it12 hq => have h15 := And.right h13 _ _ _ hq; n0 (P := P) (hs dX8_addStrike_37 (And.intro rfl (And.intro rfl (hk _ _ _ h15)))))))))))))) (fun c => have h8 := And.right h6 (b2_0.mp c); hs dX8_addStrike_29 (gx (P := P) ki_m1 (hs dX8_addStrike_30 (And.intro rfl (And.intro rfl (hk _ _ _ h8))))))))))))))))))))) (fun c => have h2 := And.right h c; hs dX8_addStrike_5 (hs dX8_addStrike_6 (gx (P := P) ki_0 (hs dX8_addStrike_7 (And.intro (obp ha0) (gmi (P := P) (fun it16 em => have h17 := h2 it16 em; hs dX8_addStrike_10 (gx (P := P) ki_0 (hs dX8_addStrike_11 (And.intro rfl (And.intro rfl (hk _ _ _ h17)))))))))))))))))
  · exact h.elim
theorem ct_X8_addStrike {E : Ev} {l : Launch} : CT E l yX8_addStrike (wsY yX8_addStrike cX8_addStrike 3 (some .int)) rm_X8_addStrike 0 sp_X8_addStrike := ct_of (T := T_X8_addStrike) (own := RX8) (by decide) rfl (fun ci h10 hc => by have h2 : (99 : Nat) = ci := Nat.eq_of_beq_eq_true hc; omega) ⟨rfl, rfl⟩ ⟨fok_X8, clok_X8, jok_X8, List.forall_mem_cons.mpr ⟨cok_S ct_X8_isWhereF ((cl_ins (c := 8) (by decide)).2) ml_X8_310 im_X8_isWhere co_X8_isWhere mo_X8_isWhere (by decide), List.forall_mem_cons.mpr ⟨cok_V ct_X2_add (by decide) rfl ml_X8_252 im_X2_add se_X2_add co_X2_add mo_X2_add (by decide), fun _ h => absurd h List.not_mem_nil⟩⟩⟩ bd_X8_addStrike
def w_X8_turnAll_b2 (a1 : Nat) (K : LGt → ITt → Prop)  : Nat → Int32 → LGt → ITt → Prop
  | 0, _, _, _ => False
  | n2 + 1, x2, lg, it => (((it a1 0) ≤ x2) → (K lg it)) ∧ ((¬ (it a1 0) ≤ x2) → ((∀ (lg3 : LGt), lg3 = sL lg 486 (0 : Int64) 1 → ∀ (it4 : ITt), it4 = sI it 486 2 0 → (vp_in x2 6) ∧ ((∀ (q8 : FV), q8 = fLess (fv lg3 it4 486) (fv lg3 it4 (a1 + 5 + 2 * x2.toNatClampNeg)) → ∀ (lg9 : LGt), lg9 = sL lg3 486 q8.1 q8.2.1 → ∀ (it10 : ITt), it10 = sI it4 486 2 q8.2.2 → ((¬ (it10 486 2) = 0) → ((w_X8_turnAll_b2 a1 K  n2) (x2 + 1) lg9 it10)) ∧ (((it10 486 2) = 0) → ((vp_in x2 6) ∧ ((it10 486 2 &&& 1 = it10 486 2) ∧ (∀ (lg16 : LGt), lg16 = sL lg9 (a1 + 5 + 2 * x2.toNatClampNeg) (lg9 486 0) (lg9 486 1) → ∀ (it17 : ITt), it17 = sI it10 (a1 + 5 + 2 * x2.toNatClampNeg) 2 (it10 486 2) → (w_X8_turnAll_b2 a1 K  n2) (x2 + 1) lg16 it17)))))))))
def w_X8_turnAll (a1 : Nat) (K : LGt → ITt → Prop)  (lg : LGt) (it : ITt) : Prop := ∃ n2, w_X8_turnAll_b2 a1 K  n2 (0 : Int32) lg it
def sp_X8_turnAll : Spc := fun as N lg it rf K => match as with | [.ref a0, .ref a1] => (N = NT ∧ rf = RF0 ∧ a0 = 0 ∧ a1 ∈ rb) ∧ ∃ R : LGt → ITt → Prop, w_X8_turnAll a1 R  lg it ∧ ∀ lg' it', R lg' it' → K none lg' it' RF0 | _ => False
def T_X8_turnAll : Tab := (FL_X8, CL_X8, JL_X8, [(88, 0, 2, 1, 0, sp_X1_becomeWhole), (92, 0, 2, 1, 0, sp_X1_lessF), (84, 0, 2, 1, 0, sp_X1_become)], 99, none)
def rm_X8_turnAll : Room := { frames := 2, cells := 0, slots := 0, locals := 58 }
set_option maxRecDepth 100000 in
theorem bd_X8_turnAll (as : List Value) (N : Nat) (lg : LGt) (it : ITt) (rf : RFt) (Q : Post) (h : sp_X8_turnAll as N lg it rf Q) : Bd T_X8_turnAll cX8_turnAll 3 0 as N lg it rf Q := by
  unfold sp_X8_turnAll at h
  split at h
  · rename_i a0 a1
    refine ⟨Nat.le_of_ble_eq_true rfl, fun P hs hw hf => ?_⟩
    obtain ⟨⟨rfl, rfl, rfl, ha1⟩, R, h, hk⟩ := h
    have b2 : ∀  (n : Nat)  (x2 : Int32) (lg : LGt) (it : ITt), w_X8_turnAll_b2 a1 R  n x2 lg it → P 2 [.ref 0, .ref a1, .int x2] [] NT lg it RF0 := by
      intro n
      induction n with
      | zero =>
        intro x2 lg it h
        exact h.elim
      | succ n ih =>
        intro x2 lg it h
        unfold w_X8_turnAll_b2 at h
        exact (hs dX8_turnAll_2 (hs dX8_turnAll_3 (hs dX8_turnAll_4 (And.intro (obr ha1) (hs dX8_turnAll_7 (And.intro (fun c => have h1 := And.left h c; hs dX8_turnAll_60 (And.intro rfl (And.intro rfl (hk _ _ h1)))) (fun c => have h2 := And.right h c; hs dX8_turnAll_10 (hs dX8_turnAll_11 (And.intro (oq_0) (gr (P := P) (rq_0_7) (hs dX8_turnAll_14 (gxl (P := P) kl_0 (hs dX8_turnAll_15 (And.intro (oq_486) (And.intro (oq_486) (n0 (P := P) (gmb (P := P) (fun lg3 it4 e1 e2 => have h5 := h2 lg3 e1 it4 e2; hs dX8_turnAll_18 (hs dX8_turnAll_19 (And.intro (oq_0) (gr (P := P) (rq_0_7) (hs dX8_turnAll_22 (hs dX8_turnAll_23 (And.intro (obr ha1) (gr (P := P) (rr3 ha1) (hs dX8_turnAll_26 ((have hi6 := And.left h5; have h7 := And.right h5; hs dX8_turnAll_27 (And.intro (oba13 (rob ha1 3 (by decide) rfl)) (And.intro (vin (rln ha1 3 (by decide)) hi6) (grv (P := P) (re5 ha1 (vlt (hi6))) (hs dX8_turnAll_28 (And.intro (oq_486) (And.intro (((And.intro (rfl) ((And.intro (rfl) ((And.intro (oq_486) ((rpo5 ha1 (vlt (hi6))))))))))) (n0 (P := P) (gmb (P := P) (fun lg9 it10 e1 e2 => let q8 : FV := fLess (fv lg3 it4 486) (fv lg3 it4 (a1 + 5 + 2 * x2.toNatClampNeg)); have h11 := h7 q8 rfl lg9 e1 it10 e2; hs dX8_turnAll_31 (hs dX8_turnAll_32 (And.intro (oq_0) (gr (P := P) (rq_0_7) (hs dX8_turnAll_35 (And.intro (oq_486) (hs dX8_turnAll_38 (And.intro (fun c => have h12 := And.left h11 c; hs dX8_turnAll_54 (gi1 (P := P) (gs (P := P) [.ref 0, .ref a1, .int (x2 + 1)] rfl (hs dX8_turnAll_57 (hf [.ref 0, .ref a1, .int (x2 + 1)] ⟨Or.inr rfl, ⟨Or.inr rfl, ⟨Or.inr rfl, trivial⟩⟩⟩ (ih  _ _ _  h12)))))) (fun c => have h13 := And.right h11 c; hs dX8_turnAll_41 (hs dX8_turnAll_42 (And.intro (obr ha1) (gr (P := P) (rr3 ha1) (hs dX8_turnAll_45 ((have hi14 := And.left h13; have h15 := And.right h13; hs dX8_turnAll_46 (And.intro (oba13 (rob ha1 3 (by decide) rfl)) (And.intro (vin (rln ha1 3 (by decide)) hi14) (grv (P := P) (re5 ha1 (vlt (hi14))) (hs dX8_turnAll_47 (hs dX8_turnAll_48 (And.intro (oq_0) (gr (P := P) (rq_0_7) ((have hc18 := And.left h15; have h19 := And.right h15; hs dX8_turnAll_51 (And.intro ((rpo5 ha1 (vlt (hi14)))) (And.intro (((And.intro ((rpo5 ha1 (vlt (hi14)))) ((And.intro (oq_486) (hc18)))))) (n0 (P := P) (gmb (P := P) (fun lg16 it17 e1 e2 => have h20 := h19 lg16 e1 it17 e2; hs dX8_turnAll_54 (gi1 (P := P) (gs (P := P) [.ref 0, .ref a1, .int (x2 + 1)] rfl (hs dX8_turnAll_57 (hf [.ref 0, .ref a1, .int (x2 + 1)] ⟨Or.inr rfl, ⟨Or.inr rfl, ⟨Or.inr rfl, trivial⟩⟩⟩ (ih  _ _ _  h20))))))))))))))))))))))))))))))))))))))))))))))))))))))))))))))))))))))
    unfold w_X8_turnAll at h
    exact gs (P := P) [.ref 0, .ref a1, uu] rfl (hs dX8_turnAll_0 (gx (P := P) ki_0 (hs dX8_turnAll_1 (gs (P := P) [.ref 0, .ref a1, .int 0] rfl (hf [.ref 0, .ref a1, .int 0] ⟨Or.inr rfl, ⟨Or.inr rfl, ⟨Or.inr rfl, trivial⟩⟩⟩ (Exists.elim h (fun n h => b2  n  _ _ _  h)))))))
  · exact h.elim
theorem ct_X8_turnAll {E : Ev} {l : Launch} : CT E l yX8_turnAll (wsY yX8_turnAll cX8_turnAll 3 none) rm_X8_turnAll 0 sp_X8_turnAll := ct_of (T := T_X8_turnAll) (own := RX8) (by decide) rfl (fun ci h10 hc => by have h2 : (99 : Nat) = ci := Nat.eq_of_beq_eq_true hc; omega) ⟨rfl, rfl⟩ ⟨fok_X8, clok_X8, jok_X8, List.forall_mem_cons.mpr ⟨cok_V ct_X1_becomeWhole (by decide) rfl ml_X8_88 im_X1_becomeWhole se_X1_becomeWhole co_X1_becomeWhole mo_X1_becomeWhole (by decide), List.forall_mem_cons.mpr ⟨cok_V ct_X1_lessF (by decide) rfl ml_X8_92 im_X1_less se_X1_less co_X1_less mo_X1_less (by decide), List.forall_mem_cons.mpr ⟨cok_V ct_X1_become (by decide) rfl ml_X8_84 im_X1_become se_X1_become co_X1_become mo_X1_become (by decide), fun _ h => absurd h List.not_mem_nil⟩⟩⟩⟩ bd_X8_turnAll
def w_X8_happen_b72 (a1 : Nat) (a2 : Int32) (a3 : Int32) (K : LGt → ITt → Prop)  : Nat → Int32 → LGt → ITt → Prop
  | 0, _, _, _ => False
  | n72 + 1, x4, lg, it => ((1 < x4) → (K lg it)) ∧ ((¬ 1 < x4) → (∃ R29 : Int32 → LGt → ITt → Prop, (w_X8_isAnyBeyond a1 x4 R29  lg it) ∧ ∀ (v30 : Int32) (lg31 : LGt) (it32 : ITt), R29 v30 lg31 it32 → (((¬ v30 = 0) → ((w_X8_happen_b72 a1 a2 a3 K  n72) (x4 + 1) lg31 it32)) ∧ ((v30 = 0) → (((¬ a3 = 9) → ((vp_in x4 2) ∧ (∀ (it40 : ITt), it40 = u2 it32 (a1 + 16) x4.toNatClampNeg (a3 : Int32) → (w_X8_happen_b72 a1 a2 a3 K  n72) (x4 + 1) lg31 it40))) ∧ ((a3 = 9) → ((vp_in x4 2) ∧ (∀ (it43 : ITt), it43 = u2 it32 (a1 + 16) x4.toNatClampNeg ((-1) : Int32) → (w_X8_happen_b72 a1 a2 a3 K  n72) (x4 + 1) lg31 it43))))))))
def w_X8_happen (a1 : Nat) (a2 : Int32) (a3 : Int32) (K : LGt → ITt → Prop)  (lg : LGt) (it : ITt) : Prop := ((a2.toInt < 0 ∨ 2 < a2.toInt) → (∃ n72, w_X8_happen_b72 a1 a2 a3 K  n72 (0 : Int32) lg it)) ∧ ((a2.toInt = 0 → (((a3 < 0) → (K lg it)) ∧ ((¬ a3 < 0) → ((((it a1 0) ≤ a3) → (K lg it)) ∧ ((¬ (it a1 0) ≤ a3) → ((vp_in a3 6) ∧ ((∀ (lg9 : LGt), lg9 = sL lg (a1 + 5 + 2 * a3.toNatClampNeg) (0 : Int64) 1 → ∀ (it10 : ITt), it10 = sI it (a1 + 5 + 2 * a3.toNatClampNeg) 2 0 → K lg9 it10)))))))) ∧ ((a2.toInt = 1 → (∃ R13 : LGt → ITt → Prop, (w_X8_turnAll a1 R13  lg it) ∧ ∀ (lg15 : LGt) (it16 : ITt), R13 lg15 it16 → (K lg15 it16))) ∧ ((a2.toInt = 2 → ((∀ (it21 : ITt), it21 = u2 it a1 4 (a3 : Int32) → K lg it21))) ∧ True)))
def sp_X8_happen : Spc := fun as N lg it rf K => match as with | [.ref a0, .ref a1, .int a2, .int a3] => (N = NT ∧ rf = RF0 ∧ a0 = 0 ∧ a1 ∈ rb) ∧ ∃ R : LGt → ITt → Prop, w_X8_happen a1 a2 a3 R  lg it ∧ ∀ lg' it', R lg' it' → K none lg' it' RF0 | _ => False
def T_X8_happen : Tab := (FL_X8, CL_X8, JL_X8, [(88, 0, 2, 1, 0, sp_X1_becomeWhole), (313, 0, 2, 8, 0, sp_X8_turnAll), (118, 0, 3, 8, 0, sp_X8_isAnyBeyond)], 99, none)
def rm_X8_happen : Room := { frames := 4, cells := 0, slots := 0, locals := 103 }
set_option maxRecDepth 100000 in
theorem bd_X8_happen (as : List Value) (N : Nat) (lg : LGt) (it : ITt) (rf : RFt) (Q : Post) (h : sp_X8_happen as N lg it rf Q) : Bd T_X8_happen cX8_happen 5 0 as N lg it rf Q := by
  unfold sp_X8_happen at h
  split at h
  · rename_i a0 a1 a2 a3
    refine ⟨Nat.le_of_ble_eq_true rfl, fun P hs hw hf => ?_⟩
    obtain ⟨⟨rfl, rfl, rfl, ha1⟩, R, h, hk⟩ := h
    have b72 : ∀  (n : Nat)  (x4 : Int32) (lg : LGt) (it : ITt), w_X8_happen_b72 a1 a2 a3 R  n x4 lg it → P 72 [.ref 0, .ref a1, uu, .int a3, .int x4] [] NT lg it RF0 := by
      intro n
      induction n with
      | zero =>
        intro x4 lg it h
        exact h.elim
      | succ n ih =>
        intro x4 lg it h
        unfold w_X8_happen_b72 at h
        exact (hs dX8_happen_72 (hs dX8_happen_74 (gx (P := P) ki_1 (hs dX8_happen_75 (And.intro (fun c => have h27 := And.left h c; hs dX8_happen_112 (And.intro rfl (And.intro rfl (hk _ _ h27)))) (fun c => have h28 := And.right h c; hs dX8_happen_78 (hs dX8_happen_79 (hs dX8_happen_80 (Exists.elim h28 (fun R29 h33 => hs dX8_happen_82 (And.intro (oq_0) (And.intro (And.intro rfl (And.intro rfl ((And.intro (rfl) (ha1))))) (Exists.intro R29 (And.intro (And.left h33) (fun v30 lg31 it32 hq => have h35 := And.right h33 _ _ _ hq; n0 (P := P) (hs dX8_happen_85 (And.intro (fun c => have h36 := And.left h35 c; hs dX8_happen_106 (gi1 (P := P) (gs (P := P) [.ref 0, .ref a1, uu, .int a3, .int (x4 + 1)] rfl (hs dX8_happen_109 (hf [.ref 0, .ref a1, uu, .int a3, .int (x4 + 1)] ⟨Or.inr rfl, ⟨Or.inr rfl, ⟨Or.inl rfl, ⟨Or.inr rfl, ⟨Or.inr rfl, trivial⟩⟩⟩⟩⟩ (ih  _ _ _  h36)))))) (fun c => have h37 := And.right h35 c; hs dX8_happen_88 (hs dX8_happen_89 (And.intro (obr ha1) (gr (P := P) (rr5 ha1) (hs dX8_happen_92 (hs dX8_happen_94 (hs dX8_happen_95 (gx (P := P) kb_9 (hs dX8_happen_97 (And.intro (fun c => have h38 := And.left h37 c; hs dX8_happen_104 ((have hi42 := And.left h38; have hr := And.right h38; hs dX8_happen_105 (And.intro (rob ha1 16 (by decide) rfl) (And.intro (vin (rln ha1 16 (by decide)) hi42) (gmi (P := P) (fun it40 em => have h41 := hr it40 em; hs dX8_happen_106 (gi1 (P := P) (gs (P := P) [.ref 0, .ref a1, uu, .int a3, .int (x4 + 1)] rfl (hs dX8_happen_109 (hf [.ref 0, .ref a1, uu, .int a3, .int (x4 + 1)] ⟨Or.inr rfl, ⟨Or.inr rfl, ⟨Or.inl rfl, ⟨Or.inr rfl, ⟨Or.inr rfl, trivial⟩⟩⟩⟩⟩ (ih  _ _ _  h41)))))))))))) (fun c => have h39 := And.right h37 c; hs dX8_happen_100 (gx (P := P) ki_m1 (hs dX8_happen_101 ((have hi45 := And.left h39; have hr := And.right h39; hs dX8_happen_105 (And.intro (rob ha1 16 (by decide) rfl) (And.intro (vin (rln ha1 16 (by decide)) hi45) (gmi (P := P) (fun it43 em => have h44 := hr it43 em; hs dX8_happen_106 (gi1 (P := P) (gs (P := P) [.ref 0, .ref a1, uu, .int a3, .int (x4 + 1)] rfl (hs dX8_happen_109 (hf [.ref 0, .ref a1, uu, .int a3, .int (x4 + 1)] ⟨Or.inr rfl, ⟨Or.inr rfl, ⟨Or.inl rfl, ⟨Or.inr rfl, ⟨Or.inr rfl, trivial⟩⟩⟩⟩⟩ (ih  _ _ _  h44)))))))))))))))))))))))))))))))))))))))))
    unfold w_X8_happen at h
    exact gs (P := P) [.ref 0, .ref a1, .int a2, .int a3, uu] rfl (hs dX8_happen_0 (hw dX8_happen_1 (have h23 := And.right h; And.intro (fun c => have h1 := And.left h c; hs dX8_happen_69 (gx (P := P) ki_0 (hs dX8_happen_70 (gs (P := P) [.ref 0, .ref a1, .int a2, .int a3, .int 0] rfl (hf [.ref 0, .ref a1, uu, .int a3, .int 0] ⟨Or.inr rfl, ⟨Or.inr rfl, ⟨Or.inl rfl, ⟨Or.inr rfl, ⟨Or.inr rfl, trivial⟩⟩⟩⟩⟩ (Exists.elim h1 (fun n h => b72  n  _ _ _  h))))))) (have h24 := And.right h23; And.intro (fun c => have h2 := And.left h23 c; hs dX8_happen_28 (hs dX8_happen_29 (And.intro (fun c => have h3 := And.left h2 c; hs dX8_happen_112 (And.intro rfl (And.intro rfl (hk _ _ h3)))) (fun c => have h4 := And.right h2 c; hs dX8_happen_32 (hs dX8_happen_33 (hs dX8_happen_34 (And.intro (obr ha1) (hs dX8_happen_37 (And.intro (fun c => have h5 := And.left h4 c; hs dX8_happen_112 (And.intro rfl (And.intro rfl (hk _ _ h5)))) (fun c => have h6 := And.right h4 c; hs dX8_happen_40 (hs dX8_happen_41 (And.intro (obr ha1) (gr (P := P) (rr3 ha1) (hs dX8_happen_44 ((have hi7 := And.left h6; have h8 := And.right h6; hs dX8_happen_45 (And.intro (oba13 (rob ha1 3 (by decide) rfl)) (And.intro (vin (rln ha1 3 (by decide)) hi7) (grv (P := P) (re5 ha1 (vlt (hi7))) (hs dX8_happen_46 (gxl (P := P) kl_0 (hs dX8_happen_47 (And.intro ((rpo5 ha1 (vlt (hi7)))) (And.intro ((rpo5 ha1 (vlt (hi7)))) (n0 (P := P) (gmb (P := P) (fun lg9 it10 e1 e2 => have h11 := h8 lg9 e1 it10 e2; hs dX8_happen_50 (hs dX8_happen_112 (And.intro rfl (And.intro rfl (hk _ _ h11))))))))))))))))))))))))))))))) (have h25 := And.right h24; And.intro (fun c => have h12 := And.left h24 c; hs dX8_happen_53 (hs dX8_happen_54 (Exists.elim h12 (fun R13 h17 => hs dX8_happen_55 (And.intro (oq_0) (And.intro (And.intro rfl (And.intro rfl ((And.intro (rfl) (ha1))))) (Exists.intro R13 (And.intro (And.left h17) (fun lg15 it16 hq => have h19 := And.right h17 _ _ hq; n0 (P := P) (hs dX8_happen_58 (hs dX8_happen_112 (And.intro rfl (And.intro rfl (hk _ _ h19)))))))))))))) (have h26 := And.right h25; And.intro (fun c => have h20 := And.left h25 c; hs dX8_happen_61 (hs dX8_happen_62 (hs dX8_happen_63 (And.intro (obr ha1) (gmi (P := P) (fun it21 em => have h22 := h20 it21 em; hs dX8_happen_66 (hs dX8_happen_112 (And.intro rfl (And.intro rfl (hk _ _ h22)))))))))) trivial))))))
  · exact h.elim
theorem ct_X8_happen {E : Ev} {l : Launch} : CT E l yX8_happen (wsY yX8_happen cX8_happen 5 none) rm_X8_happen 0 sp_X8_happen := ct_of (T := T_X8_happen) (own := RX8) (by decide) rfl (fun ci h10 hc => by have h2 : (99 : Nat) = ci := Nat.eq_of_beq_eq_true hc; omega) ⟨rfl, rfl⟩ ⟨fok_X8, clok_X8, jok_X8, List.forall_mem_cons.mpr ⟨cok_V ct_X1_becomeWhole (by decide) rfl ml_X8_88 im_X1_becomeWhole se_X1_becomeWhole co_X1_becomeWhole mo_X1_becomeWhole (by decide), List.forall_mem_cons.mpr ⟨cok_V ct_X8_turnAll (by decide) rfl ml_X8_313 im_X8_turnAll se_X8_turnAll co_X8_turnAll mo_X8_turnAll (by decide), List.forall_mem_cons.mpr ⟨cok_V ct_X8_isAnyBeyond (by decide) rfl ml_X8_118 im_X8_isAnyBeyond se_X8_isAnyBeyond co_X8_isAnyBeyond mo_X8_isAnyBeyond (by decide), fun _ h => absurd h List.not_mem_nil⟩⟩⟩⟩ bd_X8_happen
