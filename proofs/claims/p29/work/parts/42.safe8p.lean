/-! the class is safe: its own methods -/
set_option maxRecDepth 100000 in
theorem s_X8_toldWall (a1 : Int32) {lg0 : LGt} {it0 : ITt} (hI : I8 lg0 it0) (hs : 0 ≤ a1.toInt ∧ a1.toInt ≤ 1) : w_X8_toldWall a1 (fun (v : Int32) (lg' : LGt) (it' : ITt) => (I8 lg' it' ∧ Kc (fun j => False) lg0 it0 lg' it'))  lg0 it0 := by
  have hb_a1 := And.intro a1.le_toInt a1.toInt_lt
  have hKr : Kc (fun j => False) lg0 it0 lg0 it0 := kc_r
  generalize hp : (fun (v : Int32) (lg' : LGt) (it' : ITt) => (I8 lg' it' ∧ Kc (fun j => False) lg0 it0 lg' it')) = Pz
  unfold w_X8_toldWall
  have hi5 : vp_in a1 2 := vp_of (by first | omega | ((try simp only [Int32.lt_iff_toInt_lt, Int32.le_iff_toInt_le, ← Int32.toInt_inj, Int32.toInt_toInt64, ti_m14, ti_m13, ti_m12, ti_m11, ti_m10, ti_m9, ti_m6, ti_m5, ti_m4, ti_m3, ti_m2, ti_m1, ti_0, ti_1, ti_2, ti_3, ti_4, ti_5, ti_6, ti_7, ti_8, ti_9, ti_10, ti_11, ti_12, ti_19, ti_20, ti_21, ti_44, ti_45, ti_48, ti_57, ti_59, ti_60, ti_98, ti_99, ti_100, ti_101, ti_103, ti_108, ti_110, ti_114, ti_127]); omega) | (split <;> omega)) (by first | omega | ((try simp only [Int32.lt_iff_toInt_lt, Int32.le_iff_toInt_le, ← Int32.toInt_inj, Int32.toInt_toInt64, ti_m14, ti_m13, ti_m12, ti_m11, ti_m10, ti_m9, ti_m6, ti_m5, ti_m4, ti_m3, ti_m2, ti_m1, ti_0, ti_1, ti_2, ti_3, ti_4, ti_5, ti_6, ti_7, ti_8, ti_9, ti_10, ti_11, ti_12, ti_19, ti_20, ti_21, ti_44, ti_45, ti_48, ti_57, ti_59, ti_60, ti_98, ti_99, ti_100, ti_101, ti_103, ti_108, ti_110, ti_114, ti_127]); omega) | (split <;> omega))
  refine ⟨hi5, ?_⟩
  have hz6 := vlt hi5
  refine ⟨fun c15 => ?_, fun c15 => ?_⟩
  · try simp only [Int32.lt_iff_toInt_lt, Int32.le_iff_toInt_le, ← Int32.toInt_inj, Int32.toInt_toInt64, ti_m14, ti_m13, ti_m12, ti_m11, ti_m10, ti_m9, ti_m6, ti_m5, ti_m4, ti_m3, ti_m2, ti_m1, ti_0, ti_1, ti_2, ti_3, ti_4, ti_5, ti_6, ti_7, ti_8, ti_9, ti_10, ti_11, ti_12, ti_19, ti_20, ti_21, ti_44, ti_45, ti_48, ti_57, ti_59, ti_60, ti_98, ti_99, ti_100, ti_101, ti_103, ti_108, ti_110, ti_114, ti_127] at c15
    subst hp
    exact ⟨hI, hKr⟩
  · try simp only [Int32.lt_iff_toInt_lt, Int32.le_iff_toInt_le, ← Int32.toInt_inj, Int32.toInt_toInt64, ti_m14, ti_m13, ti_m12, ti_m11, ti_m10, ti_m9, ti_m6, ti_m5, ti_m4, ti_m3, ti_m2, ti_m1, ti_0, ti_1, ti_2, ti_3, ti_4, ti_5, ti_6, ti_7, ti_8, ti_9, ti_10, ti_11, ti_12, ti_19, ti_20, ti_21, ti_44, ti_45, ti_48, ti_57, ti_59, ti_60, ti_98, ti_99, ti_100, ti_101, ti_103, ti_108, ti_110, ti_114, ti_127] at c15
    subst hp
    exact ⟨hI, hKr⟩
set_option maxRecDepth 100000 in
theorem s_X8_isBeyond {a1 : Nat} (ha1 : Ob NT a1 1) (a2 : Int32) {lg0 : LGt} {it0 : ITt} (hI : I8 lg0 it0) : w_X8_isBeyond a1 a2 (fun (v : Int32) (lg' : LGt) (it' : ITt) => (I8 lg' it' ∧ Kc (fun j => (486 ≤ j ∧ j < 489)) lg0 it0 lg' it') ∧ (v = 0 ∨ v = 1))  lg0 it0 := by
  have hb_a2 := And.intro a2.le_toInt a2.toInt_lt
  have hKr : Kc (fun j => (486 ≤ j ∧ j < 489)) lg0 it0 lg0 it0 := kc_r
  generalize hp : (fun (v : Int32) (lg' : LGt) (it' : ITt) => (I8 lg' it' ∧ Kc (fun j => (486 ≤ j ∧ j < 489)) lg0 it0 lg' it') ∧ (v = 0 ∨ v = 1)) = Pz
  unfold w_X8_isBeyond
  refine ⟨fun c1 => ?_, fun c1 => ?_⟩
  · try simp only [Int32.lt_iff_toInt_lt, Int32.le_iff_toInt_le, ← Int32.toInt_inj, Int32.toInt_toInt64, ti_m14, ti_m13, ti_m12, ti_m11, ti_m10, ti_m9, ti_m6, ti_m5, ti_m4, ti_m3, ti_m2, ti_m1, ti_0, ti_1, ti_2, ti_3, ti_4, ti_5, ti_6, ti_7, ti_8, ti_9, ti_10, ti_11, ti_12, ti_19, ti_20, ti_21, ti_44, ti_45, ti_48, ti_57, ti_59, ti_60, ti_98, ti_99, ti_100, ti_101, ti_103, ti_108, ti_110, ti_114, ti_127] at c1
    have hc23 : it0 a1 2 &&& 1 = it0 a1 2 := ib (i8_1 hI (ha1))
    refine ⟨hc23, ?_⟩
    intro lg21 em_lg21 it22 em_it22
    have hI24 : I8 lg21 it22 := by rw [em_it22]; exact i8_u hI (ok8_1 (oq_486) (fun _ => i8_1 hI (ha1)))
    have hK25 : Kc (fun j => (486 ≤ j ∧ j < 489)) lg0 it0 lg21 it22 := by rw [em_lg21, em_it22]; exact kc_f (by first | omega | (dsimp only; omega)) hKr
    intro lg26 em_lg26 it27 em_it27
    have hI28 : I8 lg26 it27 := by rw [em_it27]; exact i8_u hI24 (ok8_1 (oq_488) (fun _ => Or.inl rfl))
    have hK29 : Kc (fun j => (486 ≤ j ∧ j < 489)) lg0 it0 lg26 it27 := by rw [em_lg26, em_it27]; exact kc_f (by first | omega | (dsimp only; omega)) hK25
    intro q30 em_q30 lg31 em_lg31 it32 em_it32
    have hI33 : I8 lg31 it32 := by rw [em_it32]; exact i8_u hI28 (ok8_1 (oq_486) (fun _ => by rw [em_q30]; exact stF_01 _ _ _ _ _))
    have hK34 : Kc (fun j => (486 ≤ j ∧ j < 489)) lg0 it0 lg31 it32 := by rw [em_lg31, em_it32]; exact kc_f (by first | omega | (dsimp only; omega)) hK29
    refine ⟨fun c55 => ?_, fun c55 => ?_⟩
    · try simp only [Int32.lt_iff_toInt_lt, Int32.le_iff_toInt_le, ← Int32.toInt_inj, Int32.toInt_toInt64, ti_m14, ti_m13, ti_m12, ti_m11, ti_m10, ti_m9, ti_m6, ti_m5, ti_m4, ti_m3, ti_m2, ti_m1, ti_0, ti_1, ti_2, ti_3, ti_4, ti_5, ti_6, ti_7, ti_8, ti_9, ti_10, ti_11, ti_12, ti_19, ti_20, ti_21, ti_44, ti_45, ti_48, ti_57, ti_59, ti_60, ti_98, ti_99, ti_100, ti_101, ti_103, ti_108, ti_110, ti_114, ti_127] at c55
      subst hp
      exact ⟨⟨hI33, hK34⟩, by first | exact Or.inl rfl | exact Or.inr rfl | assumption⟩
    · try simp only [Int32.lt_iff_toInt_lt, Int32.le_iff_toInt_le, ← Int32.toInt_inj, Int32.toInt_toInt64, ti_m14, ti_m13, ti_m12, ti_m11, ti_m10, ti_m9, ti_m6, ti_m5, ti_m4, ti_m3, ti_m2, ti_m1, ti_0, ti_1, ti_2, ti_3, ti_4, ti_5, ti_6, ti_7, ti_8, ti_9, ti_10, ti_11, ti_12, ti_19, ti_20, ti_21, ti_44, ti_45, ti_48, ti_57, ti_59, ti_60, ti_98, ti_99, ti_100, ti_101, ti_103, ti_108, ti_110, ti_114, ti_127] at c55
      refine ⟨fun c67 => ?_, fun c67 => ?_⟩
      · try simp only [Int32.lt_iff_toInt_lt, Int32.le_iff_toInt_le, ← Int32.toInt_inj, Int32.toInt_toInt64, ti_m14, ti_m13, ti_m12, ti_m11, ti_m10, ti_m9, ti_m6, ti_m5, ti_m4, ti_m3, ti_m2, ti_m1, ti_0, ti_1, ti_2, ti_3, ti_4, ti_5, ti_6, ti_7, ti_8, ti_9, ti_10, ti_11, ti_12, ti_19, ti_20, ti_21, ti_44, ti_45, ti_48, ti_57, ti_59, ti_60, ti_98, ti_99, ti_100, ti_101, ti_103, ti_108, ti_110, ti_114, ti_127] at c67
        subst hp
        exact ⟨⟨hI33, hK34⟩, by first | exact Or.inl rfl | exact Or.inr rfl | assumption⟩
      · try simp only [Int32.lt_iff_toInt_lt, Int32.le_iff_toInt_le, ← Int32.toInt_inj, Int32.toInt_toInt64, ti_m14, ti_m13, ti_m12, ti_m11, ti_m10, ti_m9, ti_m6, ti_m5, ti_m4, ti_m3, ti_m2, ti_m1, ti_0, ti_1, ti_2, ti_3, ti_4, ti_5, ti_6, ti_7, ti_8, ti_9, ti_10, ti_11, ti_12, ti_19, ti_20, ti_21, ti_44, ti_45, ti_48, ti_57, ti_59, ti_60, ti_98, ti_99, ti_100, ti_101, ti_103, ti_108, ti_110, ti_114, ti_127] at c67
        subst hp
        exact ⟨⟨hI33, hK34⟩, by first | exact Or.inl rfl | exact Or.inr rfl | assumption⟩
  · try simp only [Int32.lt_iff_toInt_lt, Int32.le_iff_toInt_le, ← Int32.toInt_inj, Int32.toInt_toInt64, ti_m14, ti_m13, ti_m12, ti_m11, ti_m10, ti_m9, ti_m6, ti_m5, ti_m4, ti_m3, ti_m2, ti_m1, ti_0, ti_1, ti_2, ti_3, ti_4, ti_5, ti_6, ti_7, ti_8, ti_9, ti_10, ti_11, ti_12, ti_19, ti_20, ti_21, ti_44, ti_45, ti_48, ti_57, ti_59, ti_60, ti_98, ti_99, ti_100, ti_101, ti_103, ti_108, ti_110, ti_114, ti_127] at c1
    refine ⟨fun c10 => ?_, fun c10 => ?_⟩
    · try simp only [Int32.lt_iff_toInt_lt, Int32.le_iff_toInt_le, ← Int32.toInt_inj, Int32.toInt_toInt64, ti_m14, ti_m13, ti_m12, ti_m11, ti_m10, ti_m9, ti_m6, ti_m5, ti_m4, ti_m3, ti_m2, ti_m1, ti_0, ti_1, ti_2, ti_3, ti_4, ti_5, ti_6, ti_7, ti_8, ti_9, ti_10, ti_11, ti_12, ti_19, ti_20, ti_21, ti_44, ti_45, ti_48, ti_57, ti_59, ti_60, ti_98, ti_99, ti_100, ti_101, ti_103, ti_108, ti_110, ti_114, ti_127] at c10
      subst hp
      exact ⟨⟨hI, hKr⟩, by first | exact Or.inl rfl | exact Or.inr rfl | assumption⟩
    · try simp only [Int32.lt_iff_toInt_lt, Int32.le_iff_toInt_le, ← Int32.toInt_inj, Int32.toInt_toInt64, ti_m14, ti_m13, ti_m12, ti_m11, ti_m10, ti_m9, ti_m6, ti_m5, ti_m4, ti_m3, ti_m2, ti_m1, ti_0, ti_1, ti_2, ti_3, ti_4, ti_5, ti_6, ti_7, ti_8, ti_9, ti_10, ti_11, ti_12, ti_19, ti_20, ti_21, ti_44, ti_45, ti_48, ti_57, ti_59, ti_60, ti_98, ti_99, ti_100, ti_101, ti_103, ti_108, ti_110, ti_114, ti_127] at c10
      subst hp
      exact ⟨⟨hI, hKr⟩, by first | exact Or.inl rfl | exact Or.inr rfl | assumption⟩
set_option maxRecDepth 100000 in
theorem s_X8_isAnyBeyond {a1 : Nat} (ha1 : a1 ∈ rb) (a2 : Int32) {lg0 : LGt} {it0 : ITt} (hI : I8 lg0 it0) : w_X8_isAnyBeyond a1 a2 (fun (v : Int32) (lg' : LGt) (it' : ITt) => (I8 lg' it' ∧ Kc (fun j => (486 ≤ j ∧ j < 489)) lg0 it0 lg' it') ∧ (v = 0 ∨ v = 1))  lg0 it0 := by
  have hb_a2 := And.intro a2.le_toInt a2.toInt_lt
  have hKr : Kc (fun j => (486 ≤ j ∧ j < 489)) lg0 it0 lg0 it0 := kc_r
  generalize hp : (fun (v : Int32) (lg' : LGt) (it' : ITt) => (I8 lg' it' ∧ Kc (fun j => (486 ≤ j ∧ j < 489)) lg0 it0 lg' it') ∧ (v = 0 ∨ v = 1)) = Pz
  unfold w_X8_isAnyBeyond
  have lp2 : ∀ (n : Nat) (x3 : Int32) (lg : LGt) (it : ITt), I8 lg it → Kc (fun j => (486 ≤ j ∧ j < 489)) lg0 it0 lg it → ((0 ≤ (x3).toInt)) → (7 - (x3).toInt).toNat < n → w_X8_isAnyBeyond_b2 a1 a2 Pz  n x3 lg it := by
    intro n2
    induction n2 with
    | zero => intro x3 lg it _ _ _ hn; exact absurd hn (Nat.not_lt_zero _)
    | succ n2 ih2 =>
      intro x3 lg16 it17 hI14 hK15 hv hn
      unfold w_X8_isAnyBeyond_b2
      have hv2_0 := hv
      have f18 : 0 ≤ (it17 a1 0).toInt ∧ (it17 a1 0).toInt ≤ 6 := i8_3 hI14 (obr ha1)
      refine ⟨fun c7 => ?_, fun c7 => ?_⟩
      · try simp only [Int32.lt_iff_toInt_lt, Int32.le_iff_toInt_le, ← Int32.toInt_inj, Int32.toInt_toInt64, ti_m14, ti_m13, ti_m12, ti_m11, ti_m10, ti_m9, ti_m6, ti_m5, ti_m4, ti_m3, ti_m2, ti_m1, ti_0, ti_1, ti_2, ti_3, ti_4, ti_5, ti_6, ti_7, ti_8, ti_9, ti_10, ti_11, ti_12, ti_19, ti_20, ti_21, ti_44, ti_45, ti_48, ti_57, ti_59, ti_60, ti_98, ti_99, ti_100, ti_101, ti_103, ti_108, ti_110, ti_114, ti_127] at c7
        subst hp
        exact ⟨⟨hI14, hK15⟩, by first | exact Or.inl rfl | exact Or.inr rfl | assumption⟩
      · try simp only [Int32.lt_iff_toInt_lt, Int32.le_iff_toInt_le, ← Int32.toInt_inj, Int32.toInt_toInt64, ti_m14, ti_m13, ti_m12, ti_m11, ti_m10, ti_m9, ti_m6, ti_m5, ti_m4, ti_m3, ti_m2, ti_m1, ti_0, ti_1, ti_2, ti_3, ti_4, ti_5, ti_6, ti_7, ti_8, ti_9, ti_10, ti_11, ti_12, ti_19, ti_20, ti_21, ti_44, ti_45, ti_48, ti_57, ti_59, ti_60, ti_98, ti_99, ti_100, ti_101, ti_103, ti_108, ti_110, ti_114, ti_127] at c7
        have hi19 : vp_in x3 6 := vp_of (by first | omega | ((try simp only [Int32.lt_iff_toInt_lt, Int32.le_iff_toInt_le, ← Int32.toInt_inj, Int32.toInt_toInt64, ti_m14, ti_m13, ti_m12, ti_m11, ti_m10, ti_m9, ti_m6, ti_m5, ti_m4, ti_m3, ti_m2, ti_m1, ti_0, ti_1, ti_2, ti_3, ti_4, ti_5, ti_6, ti_7, ti_8, ti_9, ti_10, ti_11, ti_12, ti_19, ti_20, ti_21, ti_44, ti_45, ti_48, ti_57, ti_59, ti_60, ti_98, ti_99, ti_100, ti_101, ti_103, ti_108, ti_110, ti_114, ti_127]); omega) | (split <;> omega)) (by first | omega | ((try simp only [Int32.lt_iff_toInt_lt, Int32.le_iff_toInt_le, ← Int32.toInt_inj, Int32.toInt_toInt64, ti_m14, ti_m13, ti_m12, ti_m11, ti_m10, ti_m9, ti_m6, ti_m5, ti_m4, ti_m3, ti_m2, ti_m1, ti_0, ti_1, ti_2, ti_3, ti_4, ti_5, ti_6, ti_7, ti_8, ti_9, ti_10, ti_11, ti_12, ti_19, ti_20, ti_21, ti_44, ti_45, ti_48, ti_57, ti_59, ti_60, ti_98, ti_99, ti_100, ti_101, ti_103, ti_108, ti_110, ti_114, ti_127]); omega) | (split <;> omega))
        refine ⟨hi19, ?_⟩
        have hz20 := vlt hi19
        refine ⟨_, s_X8_isBeyond ((rpo4 ha1 (vlt (hi19)))) (a2) hI14 , ?_⟩
        intro v26 lg21 it22 hq
        obtain ⟨⟨hI23, hK24⟩, ha27⟩ := hq
        have hK25 : Kc (fun j => (486 ≤ j ∧ j < 489)) lg0 it0 lg21 it22 := kc_t hK15 hK24 (fun j hj => by first | omega | exact False.elim hj | (dsimp only at hj ⊢; omega))
        try have e28 : (it22 a1 0).toInt = (it17 a1 0).toInt := congrArg (fun f => Int32.toInt (f 0)) (hK24 a1 (by first | omega | (dsimp only; omega))).2
        refine ⟨fun c21 => ?_, fun c21 => ?_⟩
        · try simp only [Int32.lt_iff_toInt_lt, Int32.le_iff_toInt_le, ← Int32.toInt_inj, Int32.toInt_toInt64, ti_m14, ti_m13, ti_m12, ti_m11, ti_m10, ti_m9, ti_m6, ti_m5, ti_m4, ti_m3, ti_m2, ti_m1, ti_0, ti_1, ti_2, ti_3, ti_4, ti_5, ti_6, ti_7, ti_8, ti_9, ti_10, ti_11, ti_12, ti_19, ti_20, ti_21, ti_44, ti_45, ti_48, ti_57, ti_59, ti_60, ti_98, ti_99, ti_100, ti_101, ti_103, ti_108, ti_110, ti_114, ti_127] at c21
          try have f29 : ((x3 + 1) : Int32).toInt = (x3).toInt + 1 := ad32 (a := (x3).toInt) (b := 1) (rfl) (ti_1) (by omega) (by omega)
          exact ih2 ((x3 + 1)) _ _ hI23 hK25 (by first | omega | assumption) (by omega)
        · try simp only [Int32.lt_iff_toInt_lt, Int32.le_iff_toInt_le, ← Int32.toInt_inj, Int32.toInt_toInt64, ti_m14, ti_m13, ti_m12, ti_m11, ti_m10, ti_m9, ti_m6, ti_m5, ti_m4, ti_m3, ti_m2, ti_m1, ti_0, ti_1, ti_2, ti_3, ti_4, ti_5, ti_6, ti_7, ti_8, ti_9, ti_10, ti_11, ti_12, ti_19, ti_20, ti_21, ti_44, ti_45, ti_48, ti_57, ti_59, ti_60, ti_98, ti_99, ti_100, ti_101, ti_103, ti_108, ti_110, ti_114, ti_127] at c21
          subst hp
          exact ⟨⟨hI23, hK25⟩, by first | exact Or.inl rfl | exact Or.inr rfl | assumption⟩
  have t30 := ti_0
  exact ⟨_, lp2 ((7 - ((0 : Int32)).toInt).toNat + 1) ((0 : Int32)) _ _ hI hKr (by first | omega | assumption) (Nat.lt_succ_self _)⟩
set_option maxRecDepth 100000 in
theorem s_X8_addUp {a1 : Nat} (ha1 : a1 ∈ rb) (a2 : Int32) {lg0 : LGt} {it0 : ITt} (hI : I8 lg0 it0) : w_X8_addUp a1 a2 (fun (lg' : LGt) (it' : ITt) => (I8 lg' it' ∧ Kc (fun j => (486 ≤ j ∧ j < 489)) lg0 it0 lg' it'))  lg0 it0 := by
  have hb_a2 := And.intro a2.le_toInt a2.toInt_lt
  have hKr : Kc (fun j => (486 ≤ j ∧ j < 489)) lg0 it0 lg0 it0 := kc_r
  generalize hp : (fun (lg' : LGt) (it' : ITt) => (I8 lg' it' ∧ Kc (fun j => (486 ≤ j ∧ j < 489)) lg0 it0 lg' it')) = Pz
  unfold w_X8_addUp
  intro lg34 em_lg34 it35 em_it35
  have hI36 : I8 lg34 it35 := by rw [em_it35]; exact i8_u hI (ok8_1 (oq_486) (fun _ => Or.inl rfl))
  have hK37 : Kc (fun j => (486 ≤ j ∧ j < 489)) lg0 it0 lg34 it35 := by rw [em_lg34, em_it35]; exact kc_f (by first | omega | (dsimp only; omega)) hKr
  have lp10 : ∀ (n : Nat) (x3 : Int32) (lg : LGt) (it : ITt), I8 lg it → Kc (fun j => (486 ≤ j ∧ j < 489)) lg0 it0 lg it → ((0 ≤ (x3).toInt)) → (7 - (x3).toInt).toNat < n → w_X8_addUp_b10 a1 a2 Pz  n x3 lg it := by
    intro n10
    induction n10 with
    | zero => intro x3 lg it _ _ _ hn; exact absurd hn (Nat.not_lt_zero _)
    | succ n10 ih10 =>
      intro x3 lg40 it41 hI38 hK39 hv hn
      unfold w_X8_addUp_b10
      have hv10_0 := hv
      have f42 : 0 ≤ (it41 a1 0).toInt ∧ (it41 a1 0).toInt ≤ 6 := i8_3 hI38 (obr ha1)
      refine ⟨fun c15 => ?_, fun c15 => ?_⟩
      · try simp only [Int32.lt_iff_toInt_lt, Int32.le_iff_toInt_le, ← Int32.toInt_inj, Int32.toInt_toInt64, ti_m14, ti_m13, ti_m12, ti_m11, ti_m10, ti_m9, ti_m6, ti_m5, ti_m4, ti_m3, ti_m2, ti_m1, ti_0, ti_1, ti_2, ti_3, ti_4, ti_5, ti_6, ti_7, ti_8, ti_9, ti_10, ti_11, ti_12, ti_19, ti_20, ti_21, ti_44, ti_45, ti_48, ti_57, ti_59, ti_60, ti_98, ti_99, ti_100, ti_101, ti_103, ti_108, ti_110, ti_114, ti_127] at c15
        subst hp
        exact ⟨hI38, hK39⟩
      · try simp only [Int32.lt_iff_toInt_lt, Int32.le_iff_toInt_le, ← Int32.toInt_inj, Int32.toInt_toInt64, ti_m14, ti_m13, ti_m12, ti_m11, ti_m10, ti_m9, ti_m6, ti_m5, ti_m4, ti_m3, ti_m2, ti_m1, ti_0, ti_1, ti_2, ti_3, ti_4, ti_5, ti_6, ti_7, ti_8, ti_9, ti_10, ti_11, ti_12, ti_19, ti_20, ti_21, ti_44, ti_45, ti_48, ti_57, ti_59, ti_60, ti_98, ti_99, ti_100, ti_101, ti_103, ti_108, ti_110, ti_114, ti_127] at c15
        have hi43 : vp_in x3 6 := vp_of (by first | omega | ((try simp only [Int32.lt_iff_toInt_lt, Int32.le_iff_toInt_le, ← Int32.toInt_inj, Int32.toInt_toInt64, ti_m14, ti_m13, ti_m12, ti_m11, ti_m10, ti_m9, ti_m6, ti_m5, ti_m4, ti_m3, ti_m2, ti_m1, ti_0, ti_1, ti_2, ti_3, ti_4, ti_5, ti_6, ti_7, ti_8, ti_9, ti_10, ti_11, ti_12, ti_19, ti_20, ti_21, ti_44, ti_45, ti_48, ti_57, ti_59, ti_60, ti_98, ti_99, ti_100, ti_101, ti_103, ti_108, ti_110, ti_114, ti_127]); omega) | (split <;> omega)) (by first | omega | ((try simp only [Int32.lt_iff_toInt_lt, Int32.le_iff_toInt_le, ← Int32.toInt_inj, Int32.toInt_toInt64, ti_m14, ti_m13, ti_m12, ti_m11, ti_m10, ti_m9, ti_m6, ti_m5, ti_m4, ti_m3, ti_m2, ti_m1, ti_0, ti_1, ti_2, ti_3, ti_4, ti_5, ti_6, ti_7, ti_8, ti_9, ti_10, ti_11, ti_12, ti_19, ti_20, ti_21, ti_44, ti_45, ti_48, ti_57, ti_59, ti_60, ti_98, ti_99, ti_100, ti_101, ti_103, ti_108, ti_110, ti_114, ti_127]); omega) | (split <;> omega))
        refine ⟨hi43, ?_⟩
        have hz44 := vlt hi43
        have hc47 : it41 (a1 + 5 + 2 * x3.toNatClampNeg) 2 &&& 1 = it41 (a1 + 5 + 2 * x3.toNatClampNeg) 2 := ib (i8_1 hI38 ((rpo5 ha1 (vlt (hi43)))))
        refine ⟨hc47, ?_⟩
        intro lg45 em_lg45 it46 em_it46
        have hI48 : I8 lg45 it46 := by rw [em_it46]; exact i8_u hI38 (ok8_1 (oq_487) (fun _ => i8_1 hI38 ((rpo5 ha1 (vlt (hi43))))))
        have hK49 : Kc (fun j => (486 ≤ j ∧ j < 489)) lg0 it0 lg45 it46 := by rw [em_lg45, em_it46]; exact kc_f (by first | omega | (dsimp only; omega)) hK39
        try have e50 : (it46 a1 0).toInt = (it41 a1 0).toInt := by rw [em_it46]; exact congrArg Int32.toInt (congrFun (u2_row (by omega)) 0)
        refine ⟨fun c33 => ?_, fun c33 => ?_⟩
        · try simp only [Int32.lt_iff_toInt_lt, Int32.le_iff_toInt_le, ← Int32.toInt_inj, Int32.toInt_toInt64, ti_m14, ti_m13, ti_m12, ti_m11, ti_m10, ti_m9, ti_m6, ti_m5, ti_m4, ti_m3, ti_m2, ti_m1, ti_0, ti_1, ti_2, ti_3, ti_4, ti_5, ti_6, ti_7, ti_8, ti_9, ti_10, ti_11, ti_12, ti_19, ti_20, ti_21, ti_44, ti_45, ti_48, ti_57, ti_59, ti_60, ti_98, ti_99, ti_100, ti_101, ti_103, ti_108, ti_110, ti_114, ti_127] at c33
          unfold w_X8_addUp_b49
          have hi51 : vp_in x3 6 := vp_of (by first | omega | ((try simp only [Int32.lt_iff_toInt_lt, Int32.le_iff_toInt_le, ← Int32.toInt_inj, Int32.toInt_toInt64, ti_m14, ti_m13, ti_m12, ti_m11, ti_m10, ti_m9, ti_m6, ti_m5, ti_m4, ti_m3, ti_m2, ti_m1, ti_0, ti_1, ti_2, ti_3, ti_4, ti_5, ti_6, ti_7, ti_8, ti_9, ti_10, ti_11, ti_12, ti_19, ti_20, ti_21, ti_44, ti_45, ti_48, ti_57, ti_59, ti_60, ti_98, ti_99, ti_100, ti_101, ti_103, ti_108, ti_110, ti_114, ti_127]); omega) | (split <;> omega)) (by first | omega | ((try simp only [Int32.lt_iff_toInt_lt, Int32.le_iff_toInt_le, ← Int32.toInt_inj, Int32.toInt_toInt64, ti_m14, ti_m13, ti_m12, ti_m11, ti_m10, ti_m9, ti_m6, ti_m5, ti_m4, ti_m3, ti_m2, ti_m1, ti_0, ti_1, ti_2, ti_3, ti_4, ti_5, ti_6, ti_7, ti_8, ti_9, ti_10, ti_11, ti_12, ti_19, ti_20, ti_21, ti_44, ti_45, ti_48, ti_57, ti_59, ti_60, ti_98, ti_99, ti_100, ti_101, ti_103, ti_108, ti_110, ti_114, ti_127]); omega) | (split <;> omega))
          refine ⟨hi51, ?_⟩
          have hz52 := vlt hi51
          intro lg53 em_lg53 it54 em_it54
          have hI55 : I8 lg53 it54 := by rw [em_it54]; exact i8_u hI48 (ok8_1 (oq_488) (fun _ => Or.inl rfl))
          have hK56 : Kc (fun j => (486 ≤ j ∧ j < 489)) lg0 it0 lg53 it54 := by rw [em_lg53, em_it54]; exact kc_f (by first | omega | (dsimp only; omega)) hK49
          try have e57 : (it54 a1 0).toInt = (it46 a1 0).toInt := by rw [em_it54]; exact congrArg Int32.toInt (congrFun (u2_row (by omega)) 0)
          intro q58 em_q58 lg59 em_lg59 it60 em_it60
          have hI61 : I8 lg59 it60 := by rw [em_it60]; exact i8_u hI55 (ok8_1 (oq_487) (fun _ => by rw [em_q58]; exact stF_01 _ _ _ _ _))
          have hK62 : Kc (fun j => (486 ≤ j ∧ j < 489)) lg0 it0 lg59 it60 := by rw [em_lg59, em_it60]; exact kc_f (by first | omega | (dsimp only; omega)) hK56
          try have e63 : (it60 a1 0).toInt = (it54 a1 0).toInt := by rw [em_it60]; exact congrArg Int32.toInt (congrFun (u2_row (by omega)) 0)
          intro q64 em_q64 lg65 em_lg65 it66 em_it66
          have hI67 : I8 lg65 it66 := by rw [em_it66]; exact i8_u hI61 (ok8_1 (oq_486) (fun _ => by rw [em_q64]; exact stF_01 _ _ _ _ _))
          have hK68 : Kc (fun j => (486 ≤ j ∧ j < 489)) lg0 it0 lg65 it66 := by rw [em_lg65, em_it66]; exact kc_f (by first | omega | (dsimp only; omega)) hK62
          try have e69 : (it66 a1 0).toInt = (it60 a1 0).toInt := by rw [em_it66]; exact congrArg Int32.toInt (congrFun (u2_row (by omega)) 0)
          try have f70 : ((x3 + 1) : Int32).toInt = (x3).toInt + 1 := ad32 (a := (x3).toInt) (b := 1) (rfl) (ti_1) (by omega) (by omega)
          exact ih10 ((x3 + 1)) _ _ hI67 hK68 (by first | omega | assumption) (by omega)
        · try simp only [Int32.lt_iff_toInt_lt, Int32.le_iff_toInt_le, ← Int32.toInt_inj, Int32.toInt_toInt64, ti_m14, ti_m13, ti_m12, ti_m11, ti_m10, ti_m9, ti_m6, ti_m5, ti_m4, ti_m3, ti_m2, ti_m1, ti_0, ti_1, ti_2, ti_3, ti_4, ti_5, ti_6, ti_7, ti_8, ti_9, ti_10, ti_11, ti_12, ti_19, ti_20, ti_21, ti_44, ti_45, ti_48, ti_57, ti_59, ti_60, ti_98, ti_99, ti_100, ti_101, ti_103, ti_108, ti_110, ti_114, ti_127] at c33
          have hi71 : vp_in x3 6 := vp_of (by first | omega | ((try simp only [Int32.lt_iff_toInt_lt, Int32.le_iff_toInt_le, ← Int32.toInt_inj, Int32.toInt_toInt64, ti_m14, ti_m13, ti_m12, ti_m11, ti_m10, ti_m9, ti_m6, ti_m5, ti_m4, ti_m3, ti_m2, ti_m1, ti_0, ti_1, ti_2, ti_3, ti_4, ti_5, ti_6, ti_7, ti_8, ti_9, ti_10, ti_11, ti_12, ti_19, ti_20, ti_21, ti_44, ti_45, ti_48, ti_57, ti_59, ti_60, ti_98, ti_99, ti_100, ti_101, ti_103, ti_108, ti_110, ti_114, ti_127]); omega) | (split <;> omega)) (by first | omega | ((try simp only [Int32.lt_iff_toInt_lt, Int32.le_iff_toInt_le, ← Int32.toInt_inj, Int32.toInt_toInt64, ti_m14, ti_m13, ti_m12, ti_m11, ti_m10, ti_m9, ti_m6, ti_m5, ti_m4, ti_m3, ti_m2, ti_m1, ti_0, ti_1, ti_2, ti_3, ti_4, ti_5, ti_6, ti_7, ti_8, ti_9, ti_10, ti_11, ti_12, ti_19, ti_20, ti_21, ti_44, ti_45, ti_48, ti_57, ti_59, ti_60, ti_98, ti_99, ti_100, ti_101, ti_103, ti_108, ti_110, ti_114, ti_127]); omega) | (split <;> omega))
          refine ⟨hi71, ?_⟩
          have hz72 := vlt hi71
          intro q73 em_q73 lg74 em_lg74 it75 em_it75
          have hI76 : I8 lg74 it75 := by rw [em_it75]; exact i8_u hI48 (ok8_1 (oq_487) (fun _ => by rw [em_q73]; exact stF_01 _ _ _ _ _))
          have hK77 : Kc (fun j => (486 ≤ j ∧ j < 489)) lg0 it0 lg74 it75 := by rw [em_lg74, em_it75]; exact kc_f (by first | omega | (dsimp only; omega)) hK49
          try have e78 : (it75 a1 0).toInt = (it46 a1 0).toInt := by rw [em_it75]; exact congrArg Int32.toInt (congrFun (u2_row (by omega)) 0)
          unfold w_X8_addUp_b49
          have hi79 : vp_in x3 6 := vp_of (by first | omega | ((try simp only [Int32.lt_iff_toInt_lt, Int32.le_iff_toInt_le, ← Int32.toInt_inj, Int32.toInt_toInt64, ti_m14, ti_m13, ti_m12, ti_m11, ti_m10, ti_m9, ti_m6, ti_m5, ti_m4, ti_m3, ti_m2, ti_m1, ti_0, ti_1, ti_2, ti_3, ti_4, ti_5, ti_6, ti_7, ti_8, ti_9, ti_10, ti_11, ti_12, ti_19, ti_20, ti_21, ti_44, ti_45, ti_48, ti_57, ti_59, ti_60, ti_98, ti_99, ti_100, ti_101, ti_103, ti_108, ti_110, ti_114, ti_127]); omega) | (split <;> omega)) (by first | omega | ((try simp only [Int32.lt_iff_toInt_lt, Int32.le_iff_toInt_le, ← Int32.toInt_inj, Int32.toInt_toInt64, ti_m14, ti_m13, ti_m12, ti_m11, ti_m10, ti_m9, ti_m6, ti_m5, ti_m4, ti_m3, ti_m2, ti_m1, ti_0, ti_1, ti_2, ti_3, ti_4, ti_5, ti_6, ti_7, ti_8, ti_9, ti_10, ti_11, ti_12, ti_19, ti_20, ti_21, ti_44, ti_45, ti_48, ti_57, ti_59, ti_60, ti_98, ti_99, ti_100, ti_101, ti_103, ti_108, ti_110, ti_114, ti_127]); omega) | (split <;> omega))
          refine ⟨hi79, ?_⟩
          have hz80 := vlt hi79
          intro lg81 em_lg81 it82 em_it82
          have hI83 : I8 lg81 it82 := by rw [em_it82]; exact i8_u hI76 (ok8_1 (oq_488) (fun _ => Or.inl rfl))
          have hK84 : Kc (fun j => (486 ≤ j ∧ j < 489)) lg0 it0 lg81 it82 := by rw [em_lg81, em_it82]; exact kc_f (by first | omega | (dsimp only; omega)) hK77
          try have e85 : (it82 a1 0).toInt = (it75 a1 0).toInt := by rw [em_it82]; exact congrArg Int32.toInt (congrFun (u2_row (by omega)) 0)
          intro q86 em_q86 lg87 em_lg87 it88 em_it88
          have hI89 : I8 lg87 it88 := by rw [em_it88]; exact i8_u hI83 (ok8_1 (oq_487) (fun _ => by rw [em_q86]; exact stF_01 _ _ _ _ _))
          have hK90 : Kc (fun j => (486 ≤ j ∧ j < 489)) lg0 it0 lg87 it88 := by rw [em_lg87, em_it88]; exact kc_f (by first | omega | (dsimp only; omega)) hK84
          try have e91 : (it88 a1 0).toInt = (it82 a1 0).toInt := by rw [em_it88]; exact congrArg Int32.toInt (congrFun (u2_row (by omega)) 0)
          intro q92 em_q92 lg93 em_lg93 it94 em_it94
          have hI95 : I8 lg93 it94 := by rw [em_it94]; exact i8_u hI89 (ok8_1 (oq_486) (fun _ => by rw [em_q92]; exact stF_01 _ _ _ _ _))
          have hK96 : Kc (fun j => (486 ≤ j ∧ j < 489)) lg0 it0 lg93 it94 := by rw [em_lg93, em_it94]; exact kc_f (by first | omega | (dsimp only; omega)) hK90
          try have e97 : (it94 a1 0).toInt = (it88 a1 0).toInt := by rw [em_it94]; exact congrArg Int32.toInt (congrFun (u2_row (by omega)) 0)
          try have f98 : ((x3 + 1) : Int32).toInt = (x3).toInt + 1 := ad32 (a := (x3).toInt) (b := 1) (rfl) (ti_1) (by omega) (by omega)
          exact ih10 ((x3 + 1)) _ _ hI95 hK96 (by first | omega | assumption) (by omega)
  have t99 := ti_0
  exact ⟨_, lp10 ((7 - ((0 : Int32)).toInt).toNat + 1) ((0 : Int32)) _ _ hI36 hK37 (by first | omega | assumption) (Nat.lt_succ_self _)⟩
set_option maxRecDepth 100000 in
theorem s_X8_takesPart (a1 : Int32) (a2 : Int32) {lg0 : LGt} {it0 : ITt} (hI : I8 lg0 it0) : w_X8_takesPart a1 a2 (fun (v : Int32) (lg' : LGt) (it' : ITt) => (I8 lg' it' ∧ Kc (fun j => False) lg0 it0 lg' it') ∧ (v = 0 ∨ v = 1))  lg0 it0 := by
  have hb_a1 := And.intro a1.le_toInt a1.toInt_lt
  have hb_a2 := And.intro a2.le_toInt a2.toInt_lt
  have hKr : Kc (fun j => False) lg0 it0 lg0 it0 := kc_r
  generalize hp : (fun (v : Int32) (lg' : LGt) (it' : ITt) => (I8 lg' it' ∧ Kc (fun j => False) lg0 it0 lg' it') ∧ (v = 0 ∨ v = 1)) = Pz
  unfold w_X8_takesPart
  refine ⟨fun c1 => ?_, fun c1 => ?_⟩
  · try simp only [Int32.lt_iff_toInt_lt, Int32.le_iff_toInt_le, ← Int32.toInt_inj, Int32.toInt_toInt64, ti_m14, ti_m13, ti_m12, ti_m11, ti_m10, ti_m9, ti_m6, ti_m5, ti_m4, ti_m3, ti_m2, ti_m1, ti_0, ti_1, ti_2, ti_3, ti_4, ti_5, ti_6, ti_7, ti_8, ti_9, ti_10, ti_11, ti_12, ti_19, ti_20, ti_21, ti_44, ti_45, ti_48, ti_57, ti_59, ti_60, ti_98, ti_99, ti_100, ti_101, ti_103, ti_108, ti_110, ti_114, ti_127] at c1
    refine ⟨fun c17 => ?_, fun c17 => ?_⟩
    · try simp only [Int32.lt_iff_toInt_lt, Int32.le_iff_toInt_le, ← Int32.toInt_inj, Int32.toInt_toInt64, ti_m14, ti_m13, ti_m12, ti_m11, ti_m10, ti_m9, ti_m6, ti_m5, ti_m4, ti_m3, ti_m2, ti_m1, ti_0, ti_1, ti_2, ti_3, ti_4, ti_5, ti_6, ti_7, ti_8, ti_9, ti_10, ti_11, ti_12, ti_19, ti_20, ti_21, ti_44, ti_45, ti_48, ti_57, ti_59, ti_60, ti_98, ti_99, ti_100, ti_101, ti_103, ti_108, ti_110, ti_114, ti_127] at c17
      try have f13 : ((a2 - 1) : Int32).toInt = (a2).toInt - 1 := sb32 (a := (a2).toInt) (b := 1) (rfl) (ti_1) (by omega) (by omega)
      refine ⟨fun c46 => ?_, fun c46 => ?_⟩
      · try simp only [Int32.lt_iff_toInt_lt, Int32.le_iff_toInt_le, ← Int32.toInt_inj, Int32.toInt_toInt64, ti_m14, ti_m13, ti_m12, ti_m11, ti_m10, ti_m9, ti_m6, ti_m5, ti_m4, ti_m3, ti_m2, ti_m1, ti_0, ti_1, ti_2, ti_3, ti_4, ti_5, ti_6, ti_7, ti_8, ti_9, ti_10, ti_11, ti_12, ti_19, ti_20, ti_21, ti_44, ti_45, ti_48, ti_57, ti_59, ti_60, ti_98, ti_99, ti_100, ti_101, ti_103, ti_108, ti_110, ti_114, ti_127] at c46
        subst hp
        exact ⟨⟨hI, hKr⟩, by first | exact Or.inl rfl | exact Or.inr rfl | assumption⟩
      · try simp only [Int32.lt_iff_toInt_lt, Int32.le_iff_toInt_le, ← Int32.toInt_inj, Int32.toInt_toInt64, ti_m14, ti_m13, ti_m12, ti_m11, ti_m10, ti_m9, ti_m6, ti_m5, ti_m4, ti_m3, ti_m2, ti_m1, ti_0, ti_1, ti_2, ti_3, ti_4, ti_5, ti_6, ti_7, ti_8, ti_9, ti_10, ti_11, ti_12, ti_19, ti_20, ti_21, ti_44, ti_45, ti_48, ti_57, ti_59, ti_60, ti_98, ti_99, ti_100, ti_101, ti_103, ti_108, ti_110, ti_114, ti_127] at c46
        refine ⟨fun c51 => ?_, fun c51 => ?_⟩
        · try simp only [Int32.lt_iff_toInt_lt, Int32.le_iff_toInt_le, ← Int32.toInt_inj, Int32.toInt_toInt64, ti_m14, ti_m13, ti_m12, ti_m11, ti_m10, ti_m9, ti_m6, ti_m5, ti_m4, ti_m3, ti_m2, ti_m1, ti_0, ti_1, ti_2, ti_3, ti_4, ti_5, ti_6, ti_7, ti_8, ti_9, ti_10, ti_11, ti_12, ti_19, ti_20, ti_21, ti_44, ti_45, ti_48, ti_57, ti_59, ti_60, ti_98, ti_99, ti_100, ti_101, ti_103, ti_108, ti_110, ti_114, ti_127] at c51
          subst hp
          exact ⟨⟨hI, hKr⟩, by first | exact Or.inl rfl | exact Or.inr rfl | assumption⟩
        · try simp only [Int32.lt_iff_toInt_lt, Int32.le_iff_toInt_le, ← Int32.toInt_inj, Int32.toInt_toInt64, ti_m14, ti_m13, ti_m12, ti_m11, ti_m10, ti_m9, ti_m6, ti_m5, ti_m4, ti_m3, ti_m2, ti_m1, ti_0, ti_1, ti_2, ti_3, ti_4, ti_5, ti_6, ti_7, ti_8, ti_9, ti_10, ti_11, ti_12, ti_19, ti_20, ti_21, ti_44, ti_45, ti_48, ti_57, ti_59, ti_60, ti_98, ti_99, ti_100, ti_101, ti_103, ti_108, ti_110, ti_114, ti_127] at c51
          subst hp
          exact ⟨⟨hI, hKr⟩, by first | exact Or.inl rfl | exact Or.inr rfl | assumption⟩
    · try simp only [Int32.lt_iff_toInt_lt, Int32.le_iff_toInt_le, ← Int32.toInt_inj, Int32.toInt_toInt64, ti_m14, ti_m13, ti_m12, ti_m11, ti_m10, ti_m9, ti_m6, ti_m5, ti_m4, ti_m3, ti_m2, ti_m1, ti_0, ti_1, ti_2, ti_3, ti_4, ti_5, ti_6, ti_7, ti_8, ti_9, ti_10, ti_11, ti_12, ti_19, ti_20, ti_21, ti_44, ti_45, ti_48, ti_57, ti_59, ti_60, ti_98, ti_99, ti_100, ti_101, ti_103, ti_108, ti_110, ti_114, ti_127] at c17
      have f14 : 0 ≤ (it0 2 0).toInt ∧ (it0 2 0).toInt ≤ 6 := i8_3 hI (oq_2)
      try have f15 : (((it0 2 0) - 1) : Int32).toInt = ((it0 2 0)).toInt - 1 := sb32 (a := ((it0 2 0)).toInt) (b := 1) (rfl) (ti_1) (by omega) (by omega)
      refine ⟨fun c33 => ?_, fun c33 => ?_⟩
      · try simp only [Int32.lt_iff_toInt_lt, Int32.le_iff_toInt_le, ← Int32.toInt_inj, Int32.toInt_toInt64, ti_m14, ti_m13, ti_m12, ti_m11, ti_m10, ti_m9, ti_m6, ti_m5, ti_m4, ti_m3, ti_m2, ti_m1, ti_0, ti_1, ti_2, ti_3, ti_4, ti_5, ti_6, ti_7, ti_8, ti_9, ti_10, ti_11, ti_12, ti_19, ti_20, ti_21, ti_44, ti_45, ti_48, ti_57, ti_59, ti_60, ti_98, ti_99, ti_100, ti_101, ti_103, ti_108, ti_110, ti_114, ti_127] at c33
        subst hp
        exact ⟨⟨hI, hKr⟩, by first | exact Or.inl rfl | exact Or.inr rfl | assumption⟩
      · try simp only [Int32.lt_iff_toInt_lt, Int32.le_iff_toInt_le, ← Int32.toInt_inj, Int32.toInt_toInt64, ti_m14, ti_m13, ti_m12, ti_m11, ti_m10, ti_m9, ti_m6, ti_m5, ti_m4, ti_m3, ti_m2, ti_m1, ti_0, ti_1, ti_2, ti_3, ti_4, ti_5, ti_6, ti_7, ti_8, ti_9, ti_10, ti_11, ti_12, ti_19, ti_20, ti_21, ti_44, ti_45, ti_48, ti_57, ti_59, ti_60, ti_98, ti_99, ti_100, ti_101, ti_103, ti_108, ti_110, ti_114, ti_127] at c33
        subst hp
        exact ⟨⟨hI, hKr⟩, by first | exact Or.inl rfl | exact Or.inr rfl | assumption⟩
  · try simp only [Int32.lt_iff_toInt_lt, Int32.le_iff_toInt_le, ← Int32.toInt_inj, Int32.toInt_toInt64, ti_m14, ti_m13, ti_m12, ti_m11, ti_m10, ti_m9, ti_m6, ti_m5, ti_m4, ti_m3, ti_m2, ti_m1, ti_0, ti_1, ti_2, ti_3, ti_4, ti_5, ti_6, ti_7, ti_8, ti_9, ti_10, ti_11, ti_12, ti_19, ti_20, ti_21, ti_44, ti_45, ti_48, ti_57, ti_59, ti_60, ti_98, ti_99, ti_100, ti_101, ti_103, ti_108, ti_110, ti_114, ti_127] at c1
    refine ⟨fun c5 => ?_, fun c5 => ?_⟩
    · try simp only [Int32.lt_iff_toInt_lt, Int32.le_iff_toInt_le, ← Int32.toInt_inj, Int32.toInt_toInt64, ti_m14, ti_m13, ti_m12, ti_m11, ti_m10, ti_m9, ti_m6, ti_m5, ti_m4, ti_m3, ti_m2, ti_m1, ti_0, ti_1, ti_2, ti_3, ti_4, ti_5, ti_6, ti_7, ti_8, ti_9, ti_10, ti_11, ti_12, ti_19, ti_20, ti_21, ti_44, ti_45, ti_48, ti_57, ti_59, ti_60, ti_98, ti_99, ti_100, ti_101, ti_103, ti_108, ti_110, ti_114, ti_127] at c5
      subst hp
      exact ⟨⟨hI, hKr⟩, by first | exact Or.inl rfl | exact Or.inr rfl | assumption⟩
    · try simp only [Int32.lt_iff_toInt_lt, Int32.le_iff_toInt_le, ← Int32.toInt_inj, Int32.toInt_toInt64, ti_m14, ti_m13, ti_m12, ti_m11, ti_m10, ti_m9, ti_m6, ti_m5, ti_m4, ti_m3, ti_m2, ti_m1, ti_0, ti_1, ti_2, ti_3, ti_4, ti_5, ti_6, ti_7, ti_8, ti_9, ti_10, ti_11, ti_12, ti_19, ti_20, ti_21, ti_44, ti_45, ti_48, ti_57, ti_59, ti_60, ti_98, ti_99, ti_100, ti_101, ti_103, ti_108, ti_110, ti_114, ti_127] at c5
      subst hp
      exact ⟨⟨hI, hKr⟩, by first | exact Or.inl rfl | exact Or.inr rfl | assumption⟩
set_option maxRecDepth 100000 in
theorem s_X8_lastStopBy (a1 : Int32) {lg0 : LGt} {it0 : ITt} (hI : I8 lg0 it0) : w_X8_lastStopBy a1 (fun (v : Int32) (lg' : LGt) (it' : ITt) => (I8 lg' it' ∧ Kc (fun j => (55 ≤ j ∧ j < 450) ∨ (486 ≤ j ∧ j < 489)) lg0 it0 lg' it') ∧ (v.toInt = -1 ∨ (0 ≤ v.toInt ∧ v.toInt ≤ 20)))  lg0 it0 := by
  have hb_a1 := And.intro a1.le_toInt a1.toInt_lt
  have hKr : Kc (fun j => (55 ≤ j ∧ j < 450) ∨ (486 ≤ j ∧ j < 489)) lg0 it0 lg0 it0 := kc_r
  generalize hp : (fun (v : Int32) (lg' : LGt) (it' : ITt) => (I8 lg' it' ∧ Kc (fun j => (55 ≤ j ∧ j < 450) ∨ (486 ≤ j ∧ j < 489)) lg0 it0 lg' it') ∧ (v.toInt = -1 ∨ (0 ≤ v.toInt ∧ v.toInt ≤ 20))) = Pz
  unfold w_X8_lastStopBy
  refine ⟨_, s_X0_work (in_rb_2) ((20 : Int32)) hI , ?_⟩
  intro lg25 it26 hq
  obtain ⟨hI27, hK28⟩ := hq
  have hK29 : Kc (fun j => (55 ≤ j ∧ j < 450) ∨ (486 ≤ j ∧ j < 489)) lg0 it0 lg25 it26 := kc_t hKr hK28 (fun j hj => by first | omega | exact False.elim hj | (dsimp only at hj ⊢; omega))
  have lp18 : ∀ (n : Nat) (x2 : Int32) (lg : LGt) (it : ITt), I8 lg it → Kc (fun j => (55 ≤ j ∧ j < 450) ∨ (486 ≤ j ∧ j < 489)) lg0 it0 lg it → ((0 ≤ (x2).toInt)) → (22 - (x2).toInt).toNat < n → w_X8_lastStopBy_b18 a1 Pz  n x2 lg it := by
    intro n18
    induction n18 with
    | zero => intro x2 lg it _ _ _ hn; exact absurd hn (Nat.not_lt_zero _)
    | succ n18 ih18 =>
      intro x2 lg34 it35 hI32 hK33 hv hn
      unfold w_X8_lastStopBy_b18
      have hv18_0 := hv
      have f36 : 0 ≤ (it35 55 3).toInt ∧ (it35 55 3).toInt ≤ 20 := i8_0 hI32
      refine ⟨fun c26 => ?_, fun c26 => ?_⟩
      · try simp only [Int32.lt_iff_toInt_lt, Int32.le_iff_toInt_le, ← Int32.toInt_inj, Int32.toInt_toInt64, ti_m14, ti_m13, ti_m12, ti_m11, ti_m10, ti_m9, ti_m6, ti_m5, ti_m4, ti_m3, ti_m2, ti_m1, ti_0, ti_1, ti_2, ti_3, ti_4, ti_5, ti_6, ti_7, ti_8, ti_9, ti_10, ti_11, ti_12, ti_19, ti_20, ti_21, ti_44, ti_45, ti_48, ti_57, ti_59, ti_60, ti_98, ti_99, ti_100, ti_101, ti_103, ti_108, ti_110, ti_114, ti_127] at c26
        refine ⟨fun c95 => ?_, fun c95 => ?_⟩
        · try simp only [Int32.lt_iff_toInt_lt, Int32.le_iff_toInt_le, ← Int32.toInt_inj, Int32.toInt_toInt64, ti_m14, ti_m13, ti_m12, ti_m11, ti_m10, ti_m9, ti_m6, ti_m5, ti_m4, ti_m3, ti_m2, ti_m1, ti_0, ti_1, ti_2, ti_3, ti_4, ti_5, ti_6, ti_7, ti_8, ti_9, ti_10, ti_11, ti_12, ti_19, ti_20, ti_21, ti_44, ti_45, ti_48, ti_57, ti_59, ti_60, ti_98, ti_99, ti_100, ti_101, ti_103, ti_108, ti_110, ti_114, ti_127] at c95
          subst hp
          exact ⟨⟨hI32, hK33⟩, by have tm1 := ti_m1; omega⟩
        · try simp only [Int32.lt_iff_toInt_lt, Int32.le_iff_toInt_le, ← Int32.toInt_inj, Int32.toInt_toInt64, ti_m14, ti_m13, ti_m12, ti_m11, ti_m10, ti_m9, ti_m6, ti_m5, ti_m4, ti_m3, ti_m2, ti_m1, ti_0, ti_1, ti_2, ti_3, ti_4, ti_5, ti_6, ti_7, ti_8, ti_9, ti_10, ti_11, ti_12, ti_19, ti_20, ti_21, ti_44, ti_45, ti_48, ti_57, ti_59, ti_60, ti_98, ti_99, ti_100, ti_101, ti_103, ti_108, ti_110, ti_114, ti_127] at c95
          subst hp
          exact ⟨⟨hI32, hK33⟩, by have tm1 := ti_m1; omega⟩
      · try simp only [Int32.lt_iff_toInt_lt, Int32.le_iff_toInt_le, ← Int32.toInt_inj, Int32.toInt_toInt64, ti_m14, ti_m13, ti_m12, ti_m11, ti_m10, ti_m9, ti_m6, ti_m5, ti_m4, ti_m3, ti_m2, ti_m1, ti_0, ti_1, ti_2, ti_3, ti_4, ti_5, ti_6, ti_7, ti_8, ti_9, ti_10, ti_11, ti_12, ti_19, ti_20, ti_21, ti_44, ti_45, ti_48, ti_57, ti_59, ti_60, ti_98, ti_99, ti_100, ti_101, ti_103, ti_108, ti_110, ti_114, ti_127] at c26
        intro lg37 em_lg37 it38 em_it38
        have hI39 : I8 lg37 it38 := by rw [em_it38]; exact i8_u hI32 (ok8_1 (oq_486) (fun _ => Or.inl rfl))
        have hK40 : Kc (fun j => (55 ≤ j ∧ j < 450) ∨ (486 ≤ j ∧ j < 489)) lg0 it0 lg37 it38 := by rw [em_lg37, em_it38]; exact kc_f (by first | omega | (dsimp only; omega)) hK33
        have e41 : (it38 55 3).toInt = (it35 55 3).toInt := by rw [em_it38]; exact congrArg Int32.toInt (congrFun (u2_row (by decide)) 3)
        try have f42 : ((x2 + 1) : Int32).toInt = (x2).toInt + 1 := ad32 (a := (x2).toInt) (b := 1) (rfl) (ti_1) (by omega) (by omega)
        have hi43 : vp_in (x2 + 1) 21 := vp_of (by first | omega | ((try simp only [Int32.lt_iff_toInt_lt, Int32.le_iff_toInt_le, ← Int32.toInt_inj, Int32.toInt_toInt64, ti_m14, ti_m13, ti_m12, ti_m11, ti_m10, ti_m9, ti_m6, ti_m5, ti_m4, ti_m3, ti_m2, ti_m1, ti_0, ti_1, ti_2, ti_3, ti_4, ti_5, ti_6, ti_7, ti_8, ti_9, ti_10, ti_11, ti_12, ti_19, ti_20, ti_21, ti_44, ti_45, ti_48, ti_57, ti_59, ti_60, ti_98, ti_99, ti_100, ti_101, ti_103, ti_108, ti_110, ti_114, ti_127]); omega) | (split <;> omega)) (by first | omega | ((try simp only [Int32.lt_iff_toInt_lt, Int32.le_iff_toInt_le, ← Int32.toInt_inj, Int32.toInt_toInt64, ti_m14, ti_m13, ti_m12, ti_m11, ti_m10, ti_m9, ti_m6, ti_m5, ti_m4, ti_m3, ti_m2, ti_m1, ti_0, ti_1, ti_2, ti_3, ti_4, ti_5, ti_6, ti_7, ti_8, ti_9, ti_10, ti_11, ti_12, ti_19, ti_20, ti_21, ti_44, ti_45, ti_48, ti_57, ti_59, ti_60, ti_98, ti_99, ti_100, ti_101, ti_103, ti_108, ti_110, ti_114, ti_127]); omega) | (split <;> omega))
        refine ⟨hi43, ?_⟩
        have hz44 := vlt hi43
        intro q45 em_q45 lg46 em_lg46 it47 em_it47
        have hI48 : I8 lg46 it47 := by rw [em_it47]; exact i8_u hI39 (ok8_1 (oq_486) (fun _ => by rw [em_q45]; exact stF_01 _ _ _ _ _))
        have hK49 : Kc (fun j => (55 ≤ j ∧ j < 450) ∨ (486 ≤ j ∧ j < 489)) lg0 it0 lg46 it47 := by rw [em_lg46, em_it47]; exact kc_f (by first | omega | (dsimp only; omega)) hK40
        have e50 : (it47 55 3).toInt = (it38 55 3).toInt := by rw [em_it47]; exact congrArg Int32.toInt (congrFun (u2_row (by decide)) 3)
        refine ⟨fun c63 => ?_, fun c63 => ?_⟩
        · try simp only [Int32.lt_iff_toInt_lt, Int32.le_iff_toInt_le, ← Int32.toInt_inj, Int32.toInt_toInt64, ti_m14, ti_m13, ti_m12, ti_m11, ti_m10, ti_m9, ti_m6, ti_m5, ti_m4, ti_m3, ti_m2, ti_m1, ti_0, ti_1, ti_2, ti_3, ti_4, ti_5, ti_6, ti_7, ti_8, ti_9, ti_10, ti_11, ti_12, ti_19, ti_20, ti_21, ti_44, ti_45, ti_48, ti_57, ti_59, ti_60, ti_98, ti_99, ti_100, ti_101, ti_103, ti_108, ti_110, ti_114, ti_127] at c63
          refine ⟨fun c77 => ?_, fun c77 => ?_⟩
          · try simp only [Int32.lt_iff_toInt_lt, Int32.le_iff_toInt_le, ← Int32.toInt_inj, Int32.toInt_toInt64, ti_m14, ti_m13, ti_m12, ti_m11, ti_m10, ti_m9, ti_m6, ti_m5, ti_m4, ti_m3, ti_m2, ti_m1, ti_0, ti_1, ti_2, ti_3, ti_4, ti_5, ti_6, ti_7, ti_8, ti_9, ti_10, ti_11, ti_12, ti_19, ti_20, ti_21, ti_44, ti_45, ti_48, ti_57, ti_59, ti_60, ti_98, ti_99, ti_100, ti_101, ti_103, ti_108, ti_110, ti_114, ti_127] at c77
            try have f51 : ((x2 + 1) : Int32).toInt = (x2).toInt + 1 := ad32 (a := (x2).toInt) (b := 1) (rfl) (ti_1) (by omega) (by omega)
            exact ih18 ((x2 + 1)) _ _ hI48 hK49 (by first | omega | assumption) (by omega)
          · try simp only [Int32.lt_iff_toInt_lt, Int32.le_iff_toInt_le, ← Int32.toInt_inj, Int32.toInt_toInt64, ti_m14, ti_m13, ti_m12, ti_m11, ti_m10, ti_m9, ti_m6, ti_m5, ti_m4, ti_m3, ti_m2, ti_m1, ti_0, ti_1, ti_2, ti_3, ti_4, ti_5, ti_6, ti_7, ti_8, ti_9, ti_10, ti_11, ti_12, ti_19, ti_20, ti_21, ti_44, ti_45, ti_48, ti_57, ti_59, ti_60, ti_98, ti_99, ti_100, ti_101, ti_103, ti_108, ti_110, ti_114, ti_127] at c77
            subst hp
            exact ⟨⟨hI48, hK49⟩, by have tm1 := ti_m1; omega⟩
        · try simp only [Int32.lt_iff_toInt_lt, Int32.le_iff_toInt_le, ← Int32.toInt_inj, Int32.toInt_toInt64, ti_m14, ti_m13, ti_m12, ti_m11, ti_m10, ti_m9, ti_m6, ti_m5, ti_m4, ti_m3, ti_m2, ti_m1, ti_0, ti_1, ti_2, ti_3, ti_4, ti_5, ti_6, ti_7, ti_8, ti_9, ti_10, ti_11, ti_12, ti_19, ti_20, ti_21, ti_44, ti_45, ti_48, ti_57, ti_59, ti_60, ti_98, ti_99, ti_100, ti_101, ti_103, ti_108, ti_110, ti_114, ti_127] at c63
          subst hp
          exact ⟨⟨hI48, hK49⟩, by have tm1 := ti_m1; omega⟩
  have t52 := ti_0
  exact ⟨_, lp18 ((22 - ((0 : Int32)).toInt).toNat + 1) ((0 : Int32)) _ _ hI27 hK29 (by first | omega | assumption) (Nat.lt_succ_self _)⟩
set_option maxRecDepth 100000 in
theorem s_X8_addStrike {a0 : Nat} (ha0 : a0 ∈ pb) (a1 : Int32) (a2 : Int32) {lg0 : LGt} {it0 : ITt} (hI : I8 lg0 it0) : w_X8_addStrike a0 a1 a2 (fun (v : Int32) (lg' : LGt) (it' : ITt) => (I8 lg' it' ∧ Kc (fun j => (a0 ≤ j ∧ j < a0 + 3)) lg0 it0 lg' it'))  lg0 it0 := by
  have hb_a1 := And.intro a1.le_toInt a1.toInt_lt
  have hb_a2 := And.intro a2.le_toInt a2.toInt_lt
  have hKr : Kc (fun j => (a0 ≤ j ∧ j < a0 + 3)) lg0 it0 lg0 it0 := kc_r
  generalize hp : (fun (v : Int32) (lg' : LGt) (it' : ITt) => (I8 lg' it' ∧ Kc (fun j => (a0 ≤ j ∧ j < a0 + 3)) lg0 it0 lg' it')) = Pz
  unfold w_X8_addStrike
  refine ⟨fun c2 => ?_, fun c2 => ?_⟩
  · try simp only [Int32.lt_iff_toInt_lt, Int32.le_iff_toInt_le, ← Int32.toInt_inj, Int32.toInt_toInt64, ti_m14, ti_m13, ti_m12, ti_m11, ti_m10, ti_m9, ti_m6, ti_m5, ti_m4, ti_m3, ti_m2, ti_m1, ti_0, ti_1, ti_2, ti_3, ti_4, ti_5, ti_6, ti_7, ti_8, ti_9, ti_10, ti_11, ti_12, ti_19, ti_20, ti_21, ti_44, ti_45, ti_48, ti_57, ti_59, ti_60, ti_98, ti_99, ti_100, ti_101, ti_103, ti_108, ti_110, ti_114, ti_127] at c2
    refine ⟨fun c13 => ?_, fun c13 => ?_⟩
    · try simp only [Int32.lt_iff_toInt_lt, Int32.le_iff_toInt_le, ← Int32.toInt_inj, Int32.toInt_toInt64, ti_m14, ti_m13, ti_m12, ti_m11, ti_m10, ti_m9, ti_m6, ti_m5, ti_m4, ti_m3, ti_m2, ti_m1, ti_0, ti_1, ti_2, ti_3, ti_4, ti_5, ti_6, ti_7, ti_8, ti_9, ti_10, ti_11, ti_12, ti_19, ti_20, ti_21, ti_44, ti_45, ti_48, ti_57, ti_59, ti_60, ti_98, ti_99, ti_100, ti_101, ti_103, ti_108, ti_110, ti_114, ti_127] at c13
      subst hp
      exact ⟨hI, hKr⟩
    · try simp only [Int32.lt_iff_toInt_lt, Int32.le_iff_toInt_le, ← Int32.toInt_inj, Int32.toInt_toInt64, ti_m14, ti_m13, ti_m12, ti_m11, ti_m10, ti_m9, ti_m6, ti_m5, ti_m4, ti_m3, ti_m2, ti_m1, ti_0, ti_1, ti_2, ti_3, ti_4, ti_5, ti_6, ti_7, ti_8, ti_9, ti_10, ti_11, ti_12, ti_19, ti_20, ti_21, ti_44, ti_45, ti_48, ti_57, ti_59, ti_60, ti_98, ti_99, ti_100, ti_101, ti_103, ti_108, ti_110, ti_114, ti_127] at c13
      refine ⟨fun c19 => ?_, fun c19 => ?_⟩
      · try simp only [Int32.lt_iff_toInt_lt, Int32.le_iff_toInt_le, ← Int32.toInt_inj, Int32.toInt_toInt64, ti_m14, ti_m13, ti_m12, ti_m11, ti_m10, ti_m9, ti_m6, ti_m5, ti_m4, ti_m3, ti_m2, ti_m1, ti_0, ti_1, ti_2, ti_3, ti_4, ti_5, ti_6, ti_7, ti_8, ti_9, ti_10, ti_11, ti_12, ti_19, ti_20, ti_21, ti_44, ti_45, ti_48, ti_57, ti_59, ti_60, ti_98, ti_99, ti_100, ti_101, ti_103, ti_108, ti_110, ti_114, ti_127] at c19
        subst hp
        exact ⟨hI, hKr⟩
      · try simp only [Int32.lt_iff_toInt_lt, Int32.le_iff_toInt_le, ← Int32.toInt_inj, Int32.toInt_toInt64, ti_m14, ti_m13, ti_m12, ti_m11, ti_m10, ti_m9, ti_m6, ti_m5, ti_m4, ti_m3, ti_m2, ti_m1, ti_0, ti_1, ti_2, ti_3, ti_4, ti_5, ti_6, ti_7, ti_8, ti_9, ti_10, ti_11, ti_12, ti_19, ti_20, ti_21, ti_44, ti_45, ti_48, ti_57, ti_59, ti_60, ti_98, ti_99, ti_100, ti_101, ti_103, ti_108, ti_110, ti_114, ti_127] at c19
        refine ⟨fun c26 => ?_, fun c26 => ?_⟩
        · try simp only [Int32.lt_iff_toInt_lt, Int32.le_iff_toInt_le, ← Int32.toInt_inj, Int32.toInt_toInt64, ti_m14, ti_m13, ti_m12, ti_m11, ti_m10, ti_m9, ti_m6, ti_m5, ti_m4, ti_m3, ti_m2, ti_m1, ti_0, ti_1, ti_2, ti_3, ti_4, ti_5, ti_6, ti_7, ti_8, ti_9, ti_10, ti_11, ti_12, ti_19, ti_20, ti_21, ti_44, ti_45, ti_48, ti_57, ti_59, ti_60, ti_98, ti_99, ti_100, ti_101, ti_103, ti_108, ti_110, ti_114, ti_127] at c26
          refine ⟨_, s_X2_add (ha0) (a1) (a2) hI , ?_⟩
          intro v23 lg18 it19 hq
          obtain ⟨hI20, hK21⟩ := hq
          have hK22 : Kc (fun j => (a0 ≤ j ∧ j < a0 + 3)) lg0 it0 lg18 it19 := kc_t hKr hK21 (fun j hj => by first | omega | exact False.elim hj | (dsimp only at hj ⊢; omega))
          subst hp
          exact ⟨hI20, hK22⟩
        · try simp only [Int32.lt_iff_toInt_lt, Int32.le_iff_toInt_le, ← Int32.toInt_inj, Int32.toInt_toInt64, ti_m14, ti_m13, ti_m12, ti_m11, ti_m10, ti_m9, ti_m6, ti_m5, ti_m4, ti_m3, ti_m2, ti_m1, ti_0, ti_1, ti_2, ti_3, ti_4, ti_5, ti_6, ti_7, ti_8, ti_9, ti_10, ti_11, ti_12, ti_19, ti_20, ti_21, ti_44, ti_45, ti_48, ti_57, ti_59, ti_60, ti_98, ti_99, ti_100, ti_101, ti_103, ti_108, ti_110, ti_114, ti_127] at c26
          subst hp
          exact ⟨hI, hKr⟩
  · try simp only [Int32.lt_iff_toInt_lt, Int32.le_iff_toInt_le, ← Int32.toInt_inj, Int32.toInt_toInt64, ti_m14, ti_m13, ti_m12, ti_m11, ti_m10, ti_m9, ti_m6, ti_m5, ti_m4, ti_m3, ti_m2, ti_m1, ti_0, ti_1, ti_2, ti_3, ti_4, ti_5, ti_6, ti_7, ti_8, ti_9, ti_10, ti_11, ti_12, ti_19, ti_20, ti_21, ti_44, ti_45, ti_48, ti_57, ti_59, ti_60, ti_98, ti_99, ti_100, ti_101, ti_103, ti_108, ti_110, ti_114, ti_127] at c2
    intro it25 em26
    have hI27 : I8 lg0 it25 := by rw [em26]; exact i8_u hI (ok8_2 (obp ha0) (fun _ => by (try simp only [Int32.lt_iff_toInt_lt, Int32.le_iff_toInt_le, ← Int32.toInt_inj, Int32.toInt_toInt64, ti_m14, ti_m13, ti_m12, ti_m11, ti_m10, ti_m9, ti_m6, ti_m5, ti_m4, ti_m3, ti_m2, ti_m1, ti_0, ti_1, ti_2, ti_3, ti_4, ti_5, ti_6, ti_7, ti_8, ti_9, ti_10, ti_11, ti_12, ti_19, ti_20, ti_21, ti_44, ti_45, ti_48, ti_57, ti_59, ti_60, ti_98, ti_99, ti_100, ti_101, ti_103, ti_108, ti_110, ti_114, ti_127]); omega))
    have hK28 : Kc (fun j => (a0 ≤ j ∧ j < a0 + 3)) lg0 it0 lg0 it25 := by rw [em26]; exact kc_u (by first | omega | (dsimp only; omega)) hKr
    subst hp
    exact ⟨hI27, hK28⟩
set_option maxRecDepth 100000 in
theorem s_X8_turnAll {a1 : Nat} (ha1 : a1 ∈ rb) {lg0 : LGt} {it0 : ITt} (hI : I8 lg0 it0) : w_X8_turnAll a1 (fun (lg' : LGt) (it' : ITt) => (I8 lg' it' ∧ Kc (fun j => (a1 ≤ j ∧ j < a1 + 17) ∨ (486 ≤ j ∧ j < 489)) lg0 it0 lg' it'))  lg0 it0 := by
  have hKr : Kc (fun j => (a1 ≤ j ∧ j < a1 + 17) ∨ (486 ≤ j ∧ j < 489)) lg0 it0 lg0 it0 := kc_r
  generalize hp : (fun (lg' : LGt) (it' : ITt) => (I8 lg' it' ∧ Kc (fun j => (a1 ≤ j ∧ j < a1 + 17) ∨ (486 ≤ j ∧ j < 489)) lg0 it0 lg' it')) = Pz
  unfold w_X8_turnAll
  have hfar := (rb_rf _ ha1).1
  have lp2 : ∀ (n : Nat) (x2 : Int32) (lg : LGt) (it : ITt), I8 lg it → Kc (fun j => (a1 ≤ j ∧ j < a1 + 17) ∨ (486 ≤ j ∧ j < 489)) lg0 it0 lg it → ((0 ≤ (x2).toInt)) → (7 - (x2).toInt).toNat < n → w_X8_turnAll_b2 a1 Pz  n x2 lg it := by
    intro n2
    induction n2 with
    | zero => intro x2 lg it _ _ _ hn; exact absurd hn (Nat.not_lt_zero _)
    | succ n2 ih2 =>
      intro x2 lg23 it24 hI21 hK22 hv hn
      unfold w_X8_turnAll_b2
      have hv2_0 := hv
      have f25 : 0 ≤ (it24 a1 0).toInt ∧ (it24 a1 0).toInt ≤ 6 := i8_3 hI21 (obr ha1)
      refine ⟨fun c7 => ?_, fun c7 => ?_⟩
      · try simp only [Int32.lt_iff_toInt_lt, Int32.le_iff_toInt_le, ← Int32.toInt_inj, Int32.toInt_toInt64, ti_m14, ti_m13, ti_m12, ti_m11, ti_m10, ti_m9, ti_m6, ti_m5, ti_m4, ti_m3, ti_m2, ti_m1, ti_0, ti_1, ti_2, ti_3, ti_4, ti_5, ti_6, ti_7, ti_8, ti_9, ti_10, ti_11, ti_12, ti_19, ti_20, ti_21, ti_44, ti_45, ti_48, ti_57, ti_59, ti_60, ti_98, ti_99, ti_100, ti_101, ti_103, ti_108, ti_110, ti_114, ti_127] at c7
        subst hp
        exact ⟨hI21, hK22⟩
      · try simp only [Int32.lt_iff_toInt_lt, Int32.le_iff_toInt_le, ← Int32.toInt_inj, Int32.toInt_toInt64, ti_m14, ti_m13, ti_m12, ti_m11, ti_m10, ti_m9, ti_m6, ti_m5, ti_m4, ti_m3, ti_m2, ti_m1, ti_0, ti_1, ti_2, ti_3, ti_4, ti_5, ti_6, ti_7, ti_8, ti_9, ti_10, ti_11, ti_12, ti_19, ti_20, ti_21, ti_44, ti_45, ti_48, ti_57, ti_59, ti_60, ti_98, ti_99, ti_100, ti_101, ti_103, ti_108, ti_110, ti_114, ti_127] at c7
        intro lg26 em_lg26 it27 em_it27
        have hI28 : I8 lg26 it27 := by rw [em_it27]; exact i8_u hI21 (ok8_1 (oq_486) (fun _ => Or.inl rfl))
        have hK29 : Kc (fun j => (a1 ≤ j ∧ j < a1 + 17) ∨ (486 ≤ j ∧ j < 489)) lg0 it0 lg26 it27 := by rw [em_lg26, em_it27]; exact kc_f (by first | omega | (dsimp only; omega)) hK22
        try have e30 : (it27 a1 0).toInt = (it24 a1 0).toInt := by rw [em_it27]; exact congrArg Int32.toInt (congrFun (u2_row (by omega)) 0)
        have hi31 : vp_in x2 6 := vp_of (by first | omega | ((try simp only [Int32.lt_iff_toInt_lt, Int32.le_iff_toInt_le, ← Int32.toInt_inj, Int32.toInt_toInt64, ti_m14, ti_m13, ti_m12, ti_m11, ti_m10, ti_m9, ti_m6, ti_m5, ti_m4, ti_m3, ti_m2, ti_m1, ti_0, ti_1, ti_2, ti_3, ti_4, ti_5, ti_6, ti_7, ti_8, ti_9, ti_10, ti_11, ti_12, ti_19, ti_20, ti_21, ti_44, ti_45, ti_48, ti_57, ti_59, ti_60, ti_98, ti_99, ti_100, ti_101, ti_103, ti_108, ti_110, ti_114, ti_127]); omega) | (split <;> omega)) (by first | omega | ((try simp only [Int32.lt_iff_toInt_lt, Int32.le_iff_toInt_le, ← Int32.toInt_inj, Int32.toInt_toInt64, ti_m14, ti_m13, ti_m12, ti_m11, ti_m10, ti_m9, ti_m6, ti_m5, ti_m4, ti_m3, ti_m2, ti_m1, ti_0, ti_1, ti_2, ti_3, ti_4, ti_5, ti_6, ti_7, ti_8, ti_9, ti_10, ti_11, ti_12, ti_19, ti_20, ti_21, ti_44, ti_45, ti_48, ti_57, ti_59, ti_60, ti_98, ti_99, ti_100, ti_101, ti_103, ti_108, ti_110, ti_114, ti_127]); omega) | (split <;> omega))
        refine ⟨hi31, ?_⟩
        have hz32 := vlt hi31
        intro q33 em_q33 lg34 em_lg34 it35 em_it35
        have hI36 : I8 lg34 it35 := by rw [em_it35]; exact i8_u hI28 (ok8_1 (oq_486) (fun _ => by rw [em_q33]; exact stF_01 _ _ _ _ _))
        have hK37 : Kc (fun j => (a1 ≤ j ∧ j < a1 + 17) ∨ (486 ≤ j ∧ j < 489)) lg0 it0 lg34 it35 := by rw [em_lg34, em_it35]; exact kc_f (by first | omega | (dsimp only; omega)) hK29
        try have e38 : (it35 a1 0).toInt = (it27 a1 0).toInt := by rw [em_it35]; exact congrArg Int32.toInt (congrFun (u2_row (by omega)) 0)
        refine ⟨fun c38 => ?_, fun c38 => ?_⟩
        · try simp only [Int32.lt_iff_toInt_lt, Int32.le_iff_toInt_le, ← Int32.toInt_inj, Int32.toInt_toInt64, ti_m14, ti_m13, ti_m12, ti_m11, ti_m10, ti_m9, ti_m6, ti_m5, ti_m4, ti_m3, ti_m2, ti_m1, ti_0, ti_1, ti_2, ti_3, ti_4, ti_5, ti_6, ti_7, ti_8, ti_9, ti_10, ti_11, ti_12, ti_19, ti_20, ti_21, ti_44, ti_45, ti_48, ti_57, ti_59, ti_60, ti_98, ti_99, ti_100, ti_101, ti_103, ti_108, ti_110, ti_114, ti_127] at c38
          try have f39 : ((x2 + 1) : Int32).toInt = (x2).toInt + 1 := ad32 (a := (x2).toInt) (b := 1) (rfl) (ti_1) (by omega) (by omega)
          exact ih2 ((x2 + 1)) _ _ hI36 hK37 (by first | omega | assumption) (by omega)
        · try simp only [Int32.lt_iff_toInt_lt, Int32.le_iff_toInt_le, ← Int32.toInt_inj, Int32.toInt_toInt64, ti_m14, ti_m13, ti_m12, ti_m11, ti_m10, ti_m9, ti_m6, ti_m5, ti_m4, ti_m3, ti_m2, ti_m1, ti_0, ti_1, ti_2, ti_3, ti_4, ti_5, ti_6, ti_7, ti_8, ti_9, ti_10, ti_11, ti_12, ti_19, ti_20, ti_21, ti_44, ti_45, ti_48, ti_57, ti_59, ti_60, ti_98, ti_99, ti_100, ti_101, ti_103, ti_108, ti_110, ti_114, ti_127] at c38
          have hi40 : vp_in x2 6 := vp_of (by first | omega | ((try simp only [Int32.lt_iff_toInt_lt, Int32.le_iff_toInt_le, ← Int32.toInt_inj, Int32.toInt_toInt64, ti_m14, ti_m13, ti_m12, ti_m11, ti_m10, ti_m9, ti_m6, ti_m5, ti_m4, ti_m3, ti_m2, ti_m1, ti_0, ti_1, ti_2, ti_3, ti_4, ti_5, ti_6, ti_7, ti_8, ti_9, ti_10, ti_11, ti_12, ti_19, ti_20, ti_21, ti_44, ti_45, ti_48, ti_57, ti_59, ti_60, ti_98, ti_99, ti_100, ti_101, ti_103, ti_108, ti_110, ti_114, ti_127]); omega) | (split <;> omega)) (by first | omega | ((try simp only [Int32.lt_iff_toInt_lt, Int32.le_iff_toInt_le, ← Int32.toInt_inj, Int32.toInt_toInt64, ti_m14, ti_m13, ti_m12, ti_m11, ti_m10, ti_m9, ti_m6, ti_m5, ti_m4, ti_m3, ti_m2, ti_m1, ti_0, ti_1, ti_2, ti_3, ti_4, ti_5, ti_6, ti_7, ti_8, ti_9, ti_10, ti_11, ti_12, ti_19, ti_20, ti_21, ti_44, ti_45, ti_48, ti_57, ti_59, ti_60, ti_98, ti_99, ti_100, ti_101, ti_103, ti_108, ti_110, ti_114, ti_127]); omega) | (split <;> omega))
          refine ⟨hi40, ?_⟩
          have hz41 := vlt hi40
          have hc44 : it35 486 2 &&& 1 = it35 486 2 := ib (i8_1 hI36 (oq_486))
          refine ⟨hc44, ?_⟩
          intro lg42 em_lg42 it43 em_it43
          have hI45 : I8 lg42 it43 := by rw [em_it43]; exact i8_u hI36 (ok8_1 ((rpo5 ha1 (vlt (hi40)))) (fun _ => i8_1 hI36 (oq_486)))
          have hK46 : Kc (fun j => (a1 ≤ j ∧ j < a1 + 17) ∨ (486 ≤ j ∧ j < 489)) lg0 it0 lg42 it43 := by rw [em_lg42, em_it43]; exact kc_f (by first | omega | (dsimp only; omega)) hK37
          try have e47 : (it43 a1 0).toInt = (it35 a1 0).toInt := by rw [em_it43]; exact congrArg Int32.toInt (congrFun (u2_row (by omega)) 0)
          try have e48 : (it43 486 2).toInt = (it35 486 2).toInt := by rw [em_it43]; exact congrArg Int32.toInt (congrFun (u2_row (by omega)) 2)
          try have f49 : ((x2 + 1) : Int32).toInt = (x2).toInt + 1 := ad32 (a := (x2).toInt) (b := 1) (rfl) (ti_1) (by omega) (by omega)
          exact ih2 ((x2 + 1)) _ _ hI45 hK46 (by first | omega | assumption) (by omega)
  have t50 := ti_0
  exact ⟨_, lp2 ((7 - ((0 : Int32)).toInt).toNat + 1) ((0 : Int32)) _ _ hI hKr (by first | omega | assumption) (Nat.lt_succ_self _)⟩
set_option maxRecDepth 100000 in
theorem s_X8_happen {a1 : Nat} (ha1 : a1 ∈ rb) (a2 : Int32) (a3 : Int32) {lg0 : LGt} {it0 : ITt} (hI : I8 lg0 it0) : w_X8_happen a1 a2 a3 (fun (lg' : LGt) (it' : ITt) => (I8 lg' it' ∧ Kc (fun j => (a1 ≤ j ∧ j < a1 + 17) ∨ (486 ≤ j ∧ j < 489)) lg0 it0 lg' it'))  lg0 it0 := by
  have hb_a2 := And.intro a2.le_toInt a2.toInt_lt
  have hb_a3 := And.intro a3.le_toInt a3.toInt_lt
  have hKr : Kc (fun j => (a1 ≤ j ∧ j < a1 + 17) ∨ (486 ≤ j ∧ j < 489)) lg0 it0 lg0 it0 := kc_r
  generalize hp : (fun (lg' : LGt) (it' : ITt) => (I8 lg' it' ∧ Kc (fun j => (a1 ≤ j ∧ j < a1 + 17) ∨ (486 ≤ j ∧ j < 489)) lg0 it0 lg' it')) = Pz
  unfold w_X8_happen
  have hfar := (rb_rf _ ha1).1
  refine ⟨fun c1 => ?_, fun c1 => ?_, fun c1 => ?_, fun c1 => ?_, trivial⟩
  · skip
    have lp72 : ∀ (n : Nat) (x4 : Int32) (lg : LGt) (it : ITt), I8 lg it → Kc (fun j => (a1 ≤ j ∧ j < a1 + 17) ∨ (486 ≤ j ∧ j < 489)) lg0 it0 lg it → ((0 ≤ (x4).toInt)) → (2 - (x4).toInt).toNat < n → w_X8_happen_b72 a1 a2 a3 Pz  n x4 lg it := by
      intro n72
      induction n72 with
      | zero => intro x4 lg it _ _ _ hn; exact absurd hn (Nat.not_lt_zero _)
      | succ n72 ih72 =>
        intro x4 lg48 it49 hI46 hK47 hv hn
        unfold w_X8_happen_b72
        have hv72_0 := hv
        refine ⟨fun c75 => ?_, fun c75 => ?_⟩
        · try simp only [Int32.lt_iff_toInt_lt, Int32.le_iff_toInt_le, ← Int32.toInt_inj, Int32.toInt_toInt64, ti_m14, ti_m13, ti_m12, ti_m11, ti_m10, ti_m9, ti_m6, ti_m5, ti_m4, ti_m3, ti_m2, ti_m1, ti_0, ti_1, ti_2, ti_3, ti_4, ti_5, ti_6, ti_7, ti_8, ti_9, ti_10, ti_11, ti_12, ti_19, ti_20, ti_21, ti_44, ti_45, ti_48, ti_57, ti_59, ti_60, ti_98, ti_99, ti_100, ti_101, ti_103, ti_108, ti_110, ti_114, ti_127] at c75
          subst hp
          exact ⟨hI46, hK47⟩
        · try simp only [Int32.lt_iff_toInt_lt, Int32.le_iff_toInt_le, ← Int32.toInt_inj, Int32.toInt_toInt64, ti_m14, ti_m13, ti_m12, ti_m11, ti_m10, ti_m9, ti_m6, ti_m5, ti_m4, ti_m3, ti_m2, ti_m1, ti_0, ti_1, ti_2, ti_3, ti_4, ti_5, ti_6, ti_7, ti_8, ti_9, ti_10, ti_11, ti_12, ti_19, ti_20, ti_21, ti_44, ti_45, ti_48, ti_57, ti_59, ti_60, ti_98, ti_99, ti_100, ti_101, ti_103, ti_108, ti_110, ti_114, ti_127] at c75
          refine ⟨_, s_X8_isAnyBeyond (ha1) (x4) hI46 , ?_⟩
          intro v55 lg50 it51 hq
          obtain ⟨⟨hI52, hK53⟩, ha56⟩ := hq
          have hK54 : Kc (fun j => (a1 ≤ j ∧ j < a1 + 17) ∨ (486 ≤ j ∧ j < 489)) lg0 it0 lg50 it51 := kc_t hK47 hK53 (fun j hj => by first | omega | exact False.elim hj | (dsimp only at hj ⊢; omega))
          refine ⟨fun c85 => ?_, fun c85 => ?_⟩
          · try simp only [Int32.lt_iff_toInt_lt, Int32.le_iff_toInt_le, ← Int32.toInt_inj, Int32.toInt_toInt64, ti_m14, ti_m13, ti_m12, ti_m11, ti_m10, ti_m9, ti_m6, ti_m5, ti_m4, ti_m3, ti_m2, ti_m1, ti_0, ti_1, ti_2, ti_3, ti_4, ti_5, ti_6, ti_7, ti_8, ti_9, ti_10, ti_11, ti_12, ti_19, ti_20, ti_21, ti_44, ti_45, ti_48, ti_57, ti_59, ti_60, ti_98, ti_99, ti_100, ti_101, ti_103, ti_108, ti_110, ti_114, ti_127] at c85
            try have f57 : ((x4 + 1) : Int32).toInt = (x4).toInt + 1 := ad32 (a := (x4).toInt) (b := 1) (rfl) (ti_1) (by omega) (by omega)
            exact ih72 ((x4 + 1)) _ _ hI52 hK54 (by first | omega | assumption) (by omega)
          · try simp only [Int32.lt_iff_toInt_lt, Int32.le_iff_toInt_le, ← Int32.toInt_inj, Int32.toInt_toInt64, ti_m14, ti_m13, ti_m12, ti_m11, ti_m10, ti_m9, ti_m6, ti_m5, ti_m4, ti_m3, ti_m2, ti_m1, ti_0, ti_1, ti_2, ti_3, ti_4, ti_5, ti_6, ti_7, ti_8, ti_9, ti_10, ti_11, ti_12, ti_19, ti_20, ti_21, ti_44, ti_45, ti_48, ti_57, ti_59, ti_60, ti_98, ti_99, ti_100, ti_101, ti_103, ti_108, ti_110, ti_114, ti_127] at c85
            refine ⟨fun c97 => ?_, fun c97 => ?_⟩
            · try simp only [Int32.lt_iff_toInt_lt, Int32.le_iff_toInt_le, ← Int32.toInt_inj, Int32.toInt_toInt64, ti_m14, ti_m13, ti_m12, ti_m11, ti_m10, ti_m9, ti_m6, ti_m5, ti_m4, ti_m3, ti_m2, ti_m1, ti_0, ti_1, ti_2, ti_3, ti_4, ti_5, ti_6, ti_7, ti_8, ti_9, ti_10, ti_11, ti_12, ti_19, ti_20, ti_21, ti_44, ti_45, ti_48, ti_57, ti_59, ti_60, ti_98, ti_99, ti_100, ti_101, ti_103, ti_108, ti_110, ti_114, ti_127] at c97
              have hi58 : vp_in x4 2 := vp_of (by first | omega | ((try simp only [Int32.lt_iff_toInt_lt, Int32.le_iff_toInt_le, ← Int32.toInt_inj, Int32.toInt_toInt64, ti_m14, ti_m13, ti_m12, ti_m11, ti_m10, ti_m9, ti_m6, ti_m5, ti_m4, ti_m3, ti_m2, ti_m1, ti_0, ti_1, ti_2, ti_3, ti_4, ti_5, ti_6, ti_7, ti_8, ti_9, ti_10, ti_11, ti_12, ti_19, ti_20, ti_21, ti_44, ti_45, ti_48, ti_57, ti_59, ti_60, ti_98, ti_99, ti_100, ti_101, ti_103, ti_108, ti_110, ti_114, ti_127]); omega) | (split <;> omega)) (by first | omega | ((try simp only [Int32.lt_iff_toInt_lt, Int32.le_iff_toInt_le, ← Int32.toInt_inj, Int32.toInt_toInt64, ti_m14, ti_m13, ti_m12, ti_m11, ti_m10, ti_m9, ti_m6, ti_m5, ti_m4, ti_m3, ti_m2, ti_m1, ti_0, ti_1, ti_2, ti_3, ti_4, ti_5, ti_6, ti_7, ti_8, ti_9, ti_10, ti_11, ti_12, ti_19, ti_20, ti_21, ti_44, ti_45, ti_48, ti_57, ti_59, ti_60, ti_98, ti_99, ti_100, ti_101, ti_103, ti_108, ti_110, ti_114, ti_127]); omega) | (split <;> omega))
              refine ⟨hi58, ?_⟩
              have hz59 := vlt hi58
              intro it60 em61
              have hI62 : I8 lg50 it60 := by rw [em61]; exact i8_u hI52 (ok8_a (rob ha1 16 (by decide) rfl) (by decide))
              have hK63 : Kc (fun j => (a1 ≤ j ∧ j < a1 + 17) ∨ (486 ≤ j ∧ j < 489)) lg0 it0 lg50 it60 := by rw [em61]; exact kc_u (by first | omega | (dsimp only; omega)) hK54
              try have f64 : ((x4 + 1) : Int32).toInt = (x4).toInt + 1 := ad32 (a := (x4).toInt) (b := 1) (rfl) (ti_1) (by omega) (by omega)
              exact ih72 ((x4 + 1)) _ _ hI62 hK63 (by first | omega | assumption) (by omega)
            · try simp only [Int32.lt_iff_toInt_lt, Int32.le_iff_toInt_le, ← Int32.toInt_inj, Int32.toInt_toInt64, ti_m14, ti_m13, ti_m12, ti_m11, ti_m10, ti_m9, ti_m6, ti_m5, ti_m4, ti_m3, ti_m2, ti_m1, ti_0, ti_1, ti_2, ti_3, ti_4, ti_5, ti_6, ti_7, ti_8, ti_9, ti_10, ti_11, ti_12, ti_19, ti_20, ti_21, ti_44, ti_45, ti_48, ti_57, ti_59, ti_60, ti_98, ti_99, ti_100, ti_101, ti_103, ti_108, ti_110, ti_114, ti_127] at c97
              have hi65 : vp_in x4 2 := vp_of (by first | omega | ((try simp only [Int32.lt_iff_toInt_lt, Int32.le_iff_toInt_le, ← Int32.toInt_inj, Int32.toInt_toInt64, ti_m14, ti_m13, ti_m12, ti_m11, ti_m10, ti_m9, ti_m6, ti_m5, ti_m4, ti_m3, ti_m2, ti_m1, ti_0, ti_1, ti_2, ti_3, ti_4, ti_5, ti_6, ti_7, ti_8, ti_9, ti_10, ti_11, ti_12, ti_19, ti_20, ti_21, ti_44, ti_45, ti_48, ti_57, ti_59, ti_60, ti_98, ti_99, ti_100, ti_101, ti_103, ti_108, ti_110, ti_114, ti_127]); omega) | (split <;> omega)) (by first | omega | ((try simp only [Int32.lt_iff_toInt_lt, Int32.le_iff_toInt_le, ← Int32.toInt_inj, Int32.toInt_toInt64, ti_m14, ti_m13, ti_m12, ti_m11, ti_m10, ti_m9, ti_m6, ti_m5, ti_m4, ti_m3, ti_m2, ti_m1, ti_0, ti_1, ti_2, ti_3, ti_4, ti_5, ti_6, ti_7, ti_8, ti_9, ti_10, ti_11, ti_12, ti_19, ti_20, ti_21, ti_44, ti_45, ti_48, ti_57, ti_59, ti_60, ti_98, ti_99, ti_100, ti_101, ti_103, ti_108, ti_110, ti_114, ti_127]); omega) | (split <;> omega))
              refine ⟨hi65, ?_⟩
              have hz66 := vlt hi65
              intro it67 em68
              have hI69 : I8 lg50 it67 := by rw [em68]; exact i8_u hI52 (ok8_a (rob ha1 16 (by decide) rfl) (by decide))
              have hK70 : Kc (fun j => (a1 ≤ j ∧ j < a1 + 17) ∨ (486 ≤ j ∧ j < 489)) lg0 it0 lg50 it67 := by rw [em68]; exact kc_u (by first | omega | (dsimp only; omega)) hK54
              try have f71 : ((x4 + 1) : Int32).toInt = (x4).toInt + 1 := ad32 (a := (x4).toInt) (b := 1) (rfl) (ti_1) (by omega) (by omega)
              exact ih72 ((x4 + 1)) _ _ hI69 hK70 (by first | omega | assumption) (by omega)
    have t72 := ti_0
    exact ⟨_, lp72 ((2 - ((0 : Int32)).toInt).toNat + 1) ((0 : Int32)) _ _ hI hKr (by first | omega | assumption) (Nat.lt_succ_self _)⟩
  · skip
    refine ⟨fun c29 => ?_, fun c29 => ?_⟩
    · try simp only [Int32.lt_iff_toInt_lt, Int32.le_iff_toInt_le, ← Int32.toInt_inj, Int32.toInt_toInt64, ti_m14, ti_m13, ti_m12, ti_m11, ti_m10, ti_m9, ti_m6, ti_m5, ti_m4, ti_m3, ti_m2, ti_m1, ti_0, ti_1, ti_2, ti_3, ti_4, ti_5, ti_6, ti_7, ti_8, ti_9, ti_10, ti_11, ti_12, ti_19, ti_20, ti_21, ti_44, ti_45, ti_48, ti_57, ti_59, ti_60, ti_98, ti_99, ti_100, ti_101, ti_103, ti_108, ti_110, ti_114, ti_127] at c29
      subst hp
      exact ⟨hI, hKr⟩
    · try simp only [Int32.lt_iff_toInt_lt, Int32.le_iff_toInt_le, ← Int32.toInt_inj, Int32.toInt_toInt64, ti_m14, ti_m13, ti_m12, ti_m11, ti_m10, ti_m9, ti_m6, ti_m5, ti_m4, ti_m3, ti_m2, ti_m1, ti_0, ti_1, ti_2, ti_3, ti_4, ti_5, ti_6, ti_7, ti_8, ti_9, ti_10, ti_11, ti_12, ti_19, ti_20, ti_21, ti_44, ti_45, ti_48, ti_57, ti_59, ti_60, ti_98, ti_99, ti_100, ti_101, ti_103, ti_108, ti_110, ti_114, ti_127] at c29
      have f73 : 0 ≤ (it0 a1 0).toInt ∧ (it0 a1 0).toInt ≤ 6 := i8_3 hI (obr ha1)
      refine ⟨fun c37 => ?_, fun c37 => ?_⟩
      · try simp only [Int32.lt_iff_toInt_lt, Int32.le_iff_toInt_le, ← Int32.toInt_inj, Int32.toInt_toInt64, ti_m14, ti_m13, ti_m12, ti_m11, ti_m10, ti_m9, ti_m6, ti_m5, ti_m4, ti_m3, ti_m2, ti_m1, ti_0, ti_1, ti_2, ti_3, ti_4, ti_5, ti_6, ti_7, ti_8, ti_9, ti_10, ti_11, ti_12, ti_19, ti_20, ti_21, ti_44, ti_45, ti_48, ti_57, ti_59, ti_60, ti_98, ti_99, ti_100, ti_101, ti_103, ti_108, ti_110, ti_114, ti_127] at c37
        subst hp
        exact ⟨hI, hKr⟩
      · try simp only [Int32.lt_iff_toInt_lt, Int32.le_iff_toInt_le, ← Int32.toInt_inj, Int32.toInt_toInt64, ti_m14, ti_m13, ti_m12, ti_m11, ti_m10, ti_m9, ti_m6, ti_m5, ti_m4, ti_m3, ti_m2, ti_m1, ti_0, ti_1, ti_2, ti_3, ti_4, ti_5, ti_6, ti_7, ti_8, ti_9, ti_10, ti_11, ti_12, ti_19, ti_20, ti_21, ti_44, ti_45, ti_48, ti_57, ti_59, ti_60, ti_98, ti_99, ti_100, ti_101, ti_103, ti_108, ti_110, ti_114, ti_127] at c37
        have hi74 : vp_in a3 6 := vp_of (by first | omega | ((try simp only [Int32.lt_iff_toInt_lt, Int32.le_iff_toInt_le, ← Int32.toInt_inj, Int32.toInt_toInt64, ti_m14, ti_m13, ti_m12, ti_m11, ti_m10, ti_m9, ti_m6, ti_m5, ti_m4, ti_m3, ti_m2, ti_m1, ti_0, ti_1, ti_2, ti_3, ti_4, ti_5, ti_6, ti_7, ti_8, ti_9, ti_10, ti_11, ti_12, ti_19, ti_20, ti_21, ti_44, ti_45, ti_48, ti_57, ti_59, ti_60, ti_98, ti_99, ti_100, ti_101, ti_103, ti_108, ti_110, ti_114, ti_127]); omega) | (split <;> omega)) (by first | omega | ((try simp only [Int32.lt_iff_toInt_lt, Int32.le_iff_toInt_le, ← Int32.toInt_inj, Int32.toInt_toInt64, ti_m14, ti_m13, ti_m12, ti_m11, ti_m10, ti_m9, ti_m6, ti_m5, ti_m4, ti_m3, ti_m2, ti_m1, ti_0, ti_1, ti_2, ti_3, ti_4, ti_5, ti_6, ti_7, ti_8, ti_9, ti_10, ti_11, ti_12, ti_19, ti_20, ti_21, ti_44, ti_45, ti_48, ti_57, ti_59, ti_60, ti_98, ti_99, ti_100, ti_101, ti_103, ti_108, ti_110, ti_114, ti_127]); omega) | (split <;> omega))
        refine ⟨hi74, ?_⟩
        have hz75 := vlt hi74
        intro lg76 em_lg76 it77 em_it77
        have hI78 : I8 lg76 it77 := by rw [em_it77]; exact i8_u hI (ok8_1 ((rpo5 ha1 (vlt (hi74)))) (fun _ => Or.inl rfl))
        have hK79 : Kc (fun j => (a1 ≤ j ∧ j < a1 + 17) ∨ (486 ≤ j ∧ j < 489)) lg0 it0 lg76 it77 := by rw [em_lg76, em_it77]; exact kc_f (by first | omega | (dsimp only; omega)) hKr
        try have e80 : (it77 a1 0).toInt = (it0 a1 0).toInt := by rw [em_it77]; exact congrArg Int32.toInt (congrFun (u2_row (by omega)) 0)
        subst hp
        exact ⟨hI78, hK79⟩
  · skip
    refine ⟨_, s_X8_turnAll (ha1)  hI , ?_⟩
    intro lg81 it82 hq
    obtain ⟨hI83, hK84⟩ := hq
    have hK85 : Kc (fun j => (a1 ≤ j ∧ j < a1 + 17) ∨ (486 ≤ j ∧ j < 489)) lg0 it0 lg81 it82 := kc_t hKr hK84 (fun j hj => by first | omega | exact False.elim hj | (dsimp only at hj ⊢; omega))
    subst hp
    exact ⟨hI83, hK85⟩
  · skip
    intro it88 em89
    have hI90 : I8 lg0 it88 := by rw [em89]; exact i8_u hI (ok8_3 (obr ha1) (fun q => absurd q (by decide)))
    have hK91 : Kc (fun j => (a1 ≤ j ∧ j < a1 + 17) ∨ (486 ≤ j ∧ j < 489)) lg0 it0 lg0 it88 := by rw [em89]; exact kc_u (by first | omega | (dsimp only; omega)) hKr
    subst hp
    exact ⟨hI90, hK91⟩
set_option maxRecDepth 100000 in
theorem s_X8_bumper (a1 : Int32) (a2 : Int32) (a3 : Int32) {lg0 : LGt} {it0 : ITt} (hI : I8 lg0 it0) : w_X8_bumper a1 a2 a3 (fun (v : Int32) (lg' : LGt) (it' : ITt) => (I8 lg' it' ∧ Kc (fun j => (2 ≤ j ∧ j < 19) ∨ (486 ≤ j ∧ j < 489)) lg0 it0 lg' it'))  lg0 it0 := by
  have hb_a1 := And.intro a1.le_toInt a1.toInt_lt
  have hb_a2 := And.intro a2.le_toInt a2.toInt_lt
  have hb_a3 := And.intro a3.le_toInt a3.toInt_lt
  have hKr : Kc (fun j => (2 ≤ j ∧ j < 19) ∨ (486 ≤ j ∧ j < 489)) lg0 it0 lg0 it0 := kc_r
  generalize hp : (fun (v : Int32) (lg' : LGt) (it' : ITt) => (I8 lg' it' ∧ Kc (fun j => (2 ≤ j ∧ j < 19) ∨ (486 ≤ j ∧ j < 489)) lg0 it0 lg' it')) = Pz
  unfold w_X8_bumper
  refine ⟨fun c10 => ?_, fun c10 => ?_⟩
  · try simp only [Int32.lt_iff_toInt_lt, Int32.le_iff_toInt_le, ← Int32.toInt_inj, Int32.toInt_toInt64, ti_m14, ti_m13, ti_m12, ti_m11, ti_m10, ti_m9, ti_m6, ti_m5, ti_m4, ti_m3, ti_m2, ti_m1, ti_0, ti_1, ti_2, ti_3, ti_4, ti_5, ti_6, ti_7, ti_8, ti_9, ti_10, ti_11, ti_12, ti_19, ti_20, ti_21, ti_44, ti_45, ti_48, ti_57, ti_59, ti_60, ti_98, ti_99, ti_100, ti_101, ti_103, ti_108, ti_110, ti_114, ti_127] at c10
    subst hp
    exact ⟨hI, hKr⟩
  · try simp only [Int32.lt_iff_toInt_lt, Int32.le_iff_toInt_le, ← Int32.toInt_inj, Int32.toInt_toInt64, ti_m14, ti_m13, ti_m12, ti_m11, ti_m10, ti_m9, ti_m6, ti_m5, ti_m4, ti_m3, ti_m2, ti_m1, ti_0, ti_1, ti_2, ti_3, ti_4, ti_5, ti_6, ti_7, ti_8, ti_9, ti_10, ti_11, ti_12, ti_19, ti_20, ti_21, ti_44, ti_45, ti_48, ti_57, ti_59, ti_60, ti_98, ti_99, ti_100, ti_101, ti_103, ti_108, ti_110, ti_114, ti_127] at c10
    refine ⟨fun c16 => ?_, fun c16 => ?_⟩
    · try simp only [Int32.lt_iff_toInt_lt, Int32.le_iff_toInt_le, ← Int32.toInt_inj, Int32.toInt_toInt64, ti_m14, ti_m13, ti_m12, ti_m11, ti_m10, ti_m9, ti_m6, ti_m5, ti_m4, ti_m3, ti_m2, ti_m1, ti_0, ti_1, ti_2, ti_3, ti_4, ti_5, ti_6, ti_7, ti_8, ti_9, ti_10, ti_11, ti_12, ti_19, ti_20, ti_21, ti_44, ti_45, ti_48, ti_57, ti_59, ti_60, ti_98, ti_99, ti_100, ti_101, ti_103, ti_108, ti_110, ti_114, ti_127] at c16
      subst hp
      exact ⟨hI, hKr⟩
    · try simp only [Int32.lt_iff_toInt_lt, Int32.le_iff_toInt_le, ← Int32.toInt_inj, Int32.toInt_toInt64, ti_m14, ti_m13, ti_m12, ti_m11, ti_m10, ti_m9, ti_m6, ti_m5, ti_m4, ti_m3, ti_m2, ti_m1, ti_0, ti_1, ti_2, ti_3, ti_4, ti_5, ti_6, ti_7, ti_8, ti_9, ti_10, ti_11, ti_12, ti_19, ti_20, ti_21, ti_44, ti_45, ti_48, ti_57, ti_59, ti_60, ti_98, ti_99, ti_100, ti_101, ti_103, ti_108, ti_110, ti_114, ti_127] at c16
      refine ⟨fun c23 => ?_, fun c23 => ?_⟩
      · try simp only [Int32.lt_iff_toInt_lt, Int32.le_iff_toInt_le, ← Int32.toInt_inj, Int32.toInt_toInt64, ti_m14, ti_m13, ti_m12, ti_m11, ti_m10, ti_m9, ti_m6, ti_m5, ti_m4, ti_m3, ti_m2, ti_m1, ti_0, ti_1, ti_2, ti_3, ti_4, ti_5, ti_6, ti_7, ti_8, ti_9, ti_10, ti_11, ti_12, ti_19, ti_20, ti_21, ti_44, ti_45, ti_48, ti_57, ti_59, ti_60, ti_98, ti_99, ti_100, ti_101, ti_103, ti_108, ti_110, ti_114, ti_127] at c23
        subst hp
        exact ⟨hI, hKr⟩
      · try simp only [Int32.lt_iff_toInt_lt, Int32.le_iff_toInt_le, ← Int32.toInt_inj, Int32.toInt_toInt64, ti_m14, ti_m13, ti_m12, ti_m11, ti_m10, ti_m9, ti_m6, ti_m5, ti_m4, ti_m3, ti_m2, ti_m1, ti_0, ti_1, ti_2, ti_3, ti_4, ti_5, ti_6, ti_7, ti_8, ti_9, ti_10, ti_11, ti_12, ti_19, ti_20, ti_21, ti_44, ti_45, ti_48, ti_57, ti_59, ti_60, ti_98, ti_99, ti_100, ti_101, ti_103, ti_108, ti_110, ti_114, ti_127] at c23
        refine ⟨fun c30 => ?_, fun c30 => ?_⟩
        · try simp only [Int32.lt_iff_toInt_lt, Int32.le_iff_toInt_le, ← Int32.toInt_inj, Int32.toInt_toInt64, ti_m14, ti_m13, ti_m12, ti_m11, ti_m10, ti_m9, ti_m6, ti_m5, ti_m4, ti_m3, ti_m2, ti_m1, ti_0, ti_1, ti_2, ti_3, ti_4, ti_5, ti_6, ti_7, ti_8, ti_9, ti_10, ti_11, ti_12, ti_19, ti_20, ti_21, ti_44, ti_45, ti_48, ti_57, ti_59, ti_60, ti_98, ti_99, ti_100, ti_101, ti_103, ti_108, ti_110, ti_114, ti_127] at c30
          have f46 : 0 ≤ (it0 2 0).toInt ∧ (it0 2 0).toInt ≤ 6 := i8_3 hI (oq_2)
          refine ⟨fun c41 => ?_, fun c41 => ?_⟩
          · try simp only [Int32.lt_iff_toInt_lt, Int32.le_iff_toInt_le, ← Int32.toInt_inj, Int32.toInt_toInt64, ti_m14, ti_m13, ti_m12, ti_m11, ti_m10, ti_m9, ti_m6, ti_m5, ti_m4, ti_m3, ti_m2, ti_m1, ti_0, ti_1, ti_2, ti_3, ti_4, ti_5, ti_6, ti_7, ti_8, ti_9, ti_10, ti_11, ti_12, ti_19, ti_20, ti_21, ti_44, ti_45, ti_48, ti_57, ti_59, ti_60, ti_98, ti_99, ti_100, ti_101, ti_103, ti_108, ti_110, ti_114, ti_127] at c41
            unfold w_X8_bumper_b109
            refine ⟨fun c116 => ?_, fun c116 => ?_⟩
            · try simp only [Int32.lt_iff_toInt_lt, Int32.le_iff_toInt_le, ← Int32.toInt_inj, Int32.toInt_toInt64, ti_m14, ti_m13, ti_m12, ti_m11, ti_m10, ti_m9, ti_m6, ti_m5, ti_m4, ti_m3, ti_m2, ti_m1, ti_0, ti_1, ti_2, ti_3, ti_4, ti_5, ti_6, ti_7, ti_8, ti_9, ti_10, ti_11, ti_12, ti_19, ti_20, ti_21, ti_44, ti_45, ti_48, ti_57, ti_59, ti_60, ti_98, ti_99, ti_100, ti_101, ti_103, ti_108, ti_110, ti_114, ti_127] at c116
              have hi47 : vp_in (it0 2 0) 6 := vp_of (by first | omega | ((try simp only [Int32.lt_iff_toInt_lt, Int32.le_iff_toInt_le, ← Int32.toInt_inj, Int32.toInt_toInt64, ti_m14, ti_m13, ti_m12, ti_m11, ti_m10, ti_m9, ti_m6, ti_m5, ti_m4, ti_m3, ti_m2, ti_m1, ti_0, ti_1, ti_2, ti_3, ti_4, ti_5, ti_6, ti_7, ti_8, ti_9, ti_10, ti_11, ti_12, ti_19, ti_20, ti_21, ti_44, ti_45, ti_48, ti_57, ti_59, ti_60, ti_98, ti_99, ti_100, ti_101, ti_103, ti_108, ti_110, ti_114, ti_127]); omega) | (split <;> omega)) (by first | omega | ((try simp only [Int32.lt_iff_toInt_lt, Int32.le_iff_toInt_le, ← Int32.toInt_inj, Int32.toInt_toInt64, ti_m14, ti_m13, ti_m12, ti_m11, ti_m10, ti_m9, ti_m6, ti_m5, ti_m4, ti_m3, ti_m2, ti_m1, ti_0, ti_1, ti_2, ti_3, ti_4, ti_5, ti_6, ti_7, ti_8, ti_9, ti_10, ti_11, ti_12, ti_19, ti_20, ti_21, ti_44, ti_45, ti_48, ti_57, ti_59, ti_60, ti_98, ti_99, ti_100, ti_101, ti_103, ti_108, ti_110, ti_114, ti_127]); omega) | (split <;> omega))
              refine ⟨hi47, ?_⟩
              have hz48 := vlt hi47
              intro lg49 em_lg49 it50 em_it50
              have hI51 : I8 lg49 it50 := by rw [em_it50]; exact i8_u hI (ok8_1 ((rpo4 in_rb_2 (vlt (hi47)))) (fun _ => Or.inl rfl))
              have hK52 : Kc (fun j => (2 ≤ j ∧ j < 19) ∨ (486 ≤ j ∧ j < 489)) lg0 it0 lg49 it50 := by rw [em_lg49, em_it50]; exact kc_f (by first | omega | (dsimp only; omega)) hKr
              try have e53 : (it50 2 0).toInt = (it0 2 0).toInt := by rw [em_it50]; exact congrArg Int32.toInt (congrFun (u2_row (by omega)) 0)
              have hi54 : vp_in (it0 2 0) 6 := vp_of (by first | omega | ((try simp only [Int32.lt_iff_toInt_lt, Int32.le_iff_toInt_le, ← Int32.toInt_inj, Int32.toInt_toInt64, ti_m14, ti_m13, ti_m12, ti_m11, ti_m10, ti_m9, ti_m6, ti_m5, ti_m4, ti_m3, ti_m2, ti_m1, ti_0, ti_1, ti_2, ti_3, ti_4, ti_5, ti_6, ti_7, ti_8, ti_9, ti_10, ti_11, ti_12, ti_19, ti_20, ti_21, ti_44, ti_45, ti_48, ti_57, ti_59, ti_60, ti_98, ti_99, ti_100, ti_101, ti_103, ti_108, ti_110, ti_114, ti_127]); omega) | (split <;> omega)) (by first | omega | ((try simp only [Int32.lt_iff_toInt_lt, Int32.le_iff_toInt_le, ← Int32.toInt_inj, Int32.toInt_toInt64, ti_m14, ti_m13, ti_m12, ti_m11, ti_m10, ti_m9, ti_m6, ti_m5, ti_m4, ti_m3, ti_m2, ti_m1, ti_0, ti_1, ti_2, ti_3, ti_4, ti_5, ti_6, ti_7, ti_8, ti_9, ti_10, ti_11, ti_12, ti_19, ti_20, ti_21, ti_44, ti_45, ti_48, ti_57, ti_59, ti_60, ti_98, ti_99, ti_100, ti_101, ti_103, ti_108, ti_110, ti_114, ti_127]); omega) | (split <;> omega))
              refine ⟨hi54, ?_⟩
              have hz55 := vlt hi54
              intro it56 em57
              have hI58 : I8 lg49 it56 := by rw [em57]; exact i8_u hI51 (ok8_a (oq_3) (by decide))
              have hK59 : Kc (fun j => (2 ≤ j ∧ j < 19) ∨ (486 ≤ j ∧ j < 489)) lg0 it0 lg49 it56 := by rw [em57]; exact kc_u (by first | omega | (dsimp only; omega)) hK52
              have e60 : (it56 2 0).toInt = (it50 2 0).toInt := by rw [em57]; exact congrArg Int32.toInt (congrFun (u2_row (by decide)) 0)
              have hi61 : vp_in (it0 2 0) 6 := vp_of (by first | omega | ((try simp only [Int32.lt_iff_toInt_lt, Int32.le_iff_toInt_le, ← Int32.toInt_inj, Int32.toInt_toInt64, ti_m14, ti_m13, ti_m12, ti_m11, ti_m10, ti_m9, ti_m6, ti_m5, ti_m4, ti_m3, ti_m2, ti_m1, ti_0, ti_1, ti_2, ti_3, ti_4, ti_5, ti_6, ti_7, ti_8, ti_9, ti_10, ti_11, ti_12, ti_19, ti_20, ti_21, ti_44, ti_45, ti_48, ti_57, ti_59, ti_60, ti_98, ti_99, ti_100, ti_101, ti_103, ti_108, ti_110, ti_114, ti_127]); omega) | (split <;> omega)) (by first | omega | ((try simp only [Int32.lt_iff_toInt_lt, Int32.le_iff_toInt_le, ← Int32.toInt_inj, Int32.toInt_toInt64, ti_m14, ti_m13, ti_m12, ti_m11, ti_m10, ti_m9, ti_m6, ti_m5, ti_m4, ti_m3, ti_m2, ti_m1, ti_0, ti_1, ti_2, ti_3, ti_4, ti_5, ti_6, ti_7, ti_8, ti_9, ti_10, ti_11, ti_12, ti_19, ti_20, ti_21, ti_44, ti_45, ti_48, ti_57, ti_59, ti_60, ti_98, ti_99, ti_100, ti_101, ti_103, ti_108, ti_110, ti_114, ti_127]); omega) | (split <;> omega))
              refine ⟨hi61, ?_⟩
              have hz62 := vlt hi61
              intro lg63 em_lg63 it64 em_it64
              have hI65 : I8 lg63 it64 := by rw [em_it64]; exact i8_u hI58 (ok8_1 ((rpo5 in_rb_2 (vlt (hi61)))) (fun _ => Or.inl rfl))
              have hK66 : Kc (fun j => (2 ≤ j ∧ j < 19) ∨ (486 ≤ j ∧ j < 489)) lg0 it0 lg63 it64 := by rw [em_lg63, em_it64]; exact kc_f (by first | omega | (dsimp only; omega)) hK59
              try have e67 : (it64 2 0).toInt = (it56 2 0).toInt := by rw [em_it64]; exact congrArg Int32.toInt (congrFun (u2_row (by omega)) 0)
              try have f68 : (((it0 2 0) + 1) : Int32).toInt = ((it0 2 0)).toInt + 1 := ad32 (a := ((it0 2 0)).toInt) (b := 1) (rfl) (ti_1) (by omega) (by omega)
              intro it69 em70
              have hI71 : I8 lg63 it69 := by rw [em70]; exact i8_u hI65 (ok8_3 (oq_2) (fun _ => by (try simp only [Int32.lt_iff_toInt_lt, Int32.le_iff_toInt_le, ← Int32.toInt_inj, Int32.toInt_toInt64, ti_m14, ti_m13, ti_m12, ti_m11, ti_m10, ti_m9, ti_m6, ti_m5, ti_m4, ti_m3, ti_m2, ti_m1, ti_0, ti_1, ti_2, ti_3, ti_4, ti_5, ti_6, ti_7, ti_8, ti_9, ti_10, ti_11, ti_12, ti_19, ti_20, ti_21, ti_44, ti_45, ti_48, ti_57, ti_59, ti_60, ti_98, ti_99, ti_100, ti_101, ti_103, ti_108, ti_110, ti_114, ti_127]); omega))
              have hK72 : Kc (fun j => (2 ≤ j ∧ j < 19) ∨ (486 ≤ j ∧ j < 489)) lg0 it0 lg63 it69 := by rw [em70]; exact kc_u (by first | omega | (dsimp only; omega)) hK66
              subst hp
              exact ⟨hI71, hK72⟩
            · try simp only [Int32.lt_iff_toInt_lt, Int32.le_iff_toInt_le, ← Int32.toInt_inj, Int32.toInt_toInt64, ti_m14, ti_m13, ti_m12, ti_m11, ti_m10, ti_m9, ti_m6, ti_m5, ti_m4, ti_m3, ti_m2, ti_m1, ti_0, ti_1, ti_2, ti_3, ti_4, ti_5, ti_6, ti_7, ti_8, ti_9, ti_10, ti_11, ti_12, ti_19, ti_20, ti_21, ti_44, ti_45, ti_48, ti_57, ti_59, ti_60, ti_98, ti_99, ti_100, ti_101, ti_103, ti_108, ti_110, ti_114, ti_127] at c116
              subst hp
              exact ⟨hI, hKr⟩
          · try simp only [Int32.lt_iff_toInt_lt, Int32.le_iff_toInt_le, ← Int32.toInt_inj, Int32.toInt_toInt64, ti_m14, ti_m13, ti_m12, ti_m11, ti_m10, ti_m9, ti_m6, ti_m5, ti_m4, ti_m3, ti_m2, ti_m1, ti_0, ti_1, ti_2, ti_3, ti_4, ti_5, ti_6, ti_7, ti_8, ti_9, ti_10, ti_11, ti_12, ti_19, ti_20, ti_21, ti_44, ti_45, ti_48, ti_57, ti_59, ti_60, ti_98, ti_99, ti_100, ti_101, ti_103, ti_108, ti_110, ti_114, ti_127] at c41
            try have f74 : (((it0 2 0) - 1) : Int32).toInt = ((it0 2 0)).toInt - 1 := sb32 (a := ((it0 2 0)).toInt) (b := 1) (rfl) (ti_1) (by omega) (by omega)
            have hi75 : vp_in ((it0 2 0) - 1) 6 := vp_of (by first | omega | ((try simp only [Int32.lt_iff_toInt_lt, Int32.le_iff_toInt_le, ← Int32.toInt_inj, Int32.toInt_toInt64, ti_m14, ti_m13, ti_m12, ti_m11, ti_m10, ti_m9, ti_m6, ti_m5, ti_m4, ti_m3, ti_m2, ti_m1, ti_0, ti_1, ti_2, ti_3, ti_4, ti_5, ti_6, ti_7, ti_8, ti_9, ti_10, ti_11, ti_12, ti_19, ti_20, ti_21, ti_44, ti_45, ti_48, ti_57, ti_59, ti_60, ti_98, ti_99, ti_100, ti_101, ti_103, ti_108, ti_110, ti_114, ti_127]); omega) | (split <;> omega)) (by first | omega | ((try simp only [Int32.lt_iff_toInt_lt, Int32.le_iff_toInt_le, ← Int32.toInt_inj, Int32.toInt_toInt64, ti_m14, ti_m13, ti_m12, ti_m11, ti_m10, ti_m9, ti_m6, ti_m5, ti_m4, ti_m3, ti_m2, ti_m1, ti_0, ti_1, ti_2, ti_3, ti_4, ti_5, ti_6, ti_7, ti_8, ti_9, ti_10, ti_11, ti_12, ti_19, ti_20, ti_21, ti_44, ti_45, ti_48, ti_57, ti_59, ti_60, ti_98, ti_99, ti_100, ti_101, ti_103, ti_108, ti_110, ti_114, ti_127]); omega) | (split <;> omega))
            refine ⟨hi75, ?_⟩
            have hz76 := vlt hi75
            have hc79 : it0 (6 + 2 * ((it0 2 0) - 1).toNatClampNeg) 2 &&& 1 = it0 (6 + 2 * ((it0 2 0) - 1).toNatClampNeg) 2 := ib (i8_1 hI ((rpo4 in_rb_2 (vlt (hi75)))))
            refine ⟨hc79, ?_⟩
            intro lg77 em_lg77 it78 em_it78
            have hI80 : I8 lg77 it78 := by rw [em_it78]; exact i8_u hI (ok8_1 (oq_486) (fun _ => i8_1 hI ((rpo4 in_rb_2 (vlt (hi75))))))
            have hK81 : Kc (fun j => (2 ≤ j ∧ j < 19) ∨ (486 ≤ j ∧ j < 489)) lg0 it0 lg77 it78 := by rw [em_lg77, em_it78]; exact kc_f (by first | omega | (dsimp only; omega)) hKr
            have e82 : (it78 2 0).toInt = (it0 2 0).toInt := by rw [em_it78]; exact congrArg Int32.toInt (congrFun (u2_row (by decide)) 0)
            intro lg83 em_lg83 it84 em_it84
            have hI85 : I8 lg83 it84 := by rw [em_it84]; exact i8_u hI80 (ok8_1 (oq_488) (fun _ => Or.inl rfl))
            have hK86 : Kc (fun j => (2 ≤ j ∧ j < 19) ∨ (486 ≤ j ∧ j < 489)) lg0 it0 lg83 it84 := by rw [em_lg83, em_it84]; exact kc_f (by first | omega | (dsimp only; omega)) hK81
            have e87 : (it84 2 0).toInt = (it78 2 0).toInt := by rw [em_it84]; exact congrArg Int32.toInt (congrFun (u2_row (by decide)) 0)
            intro q88 em_q88 lg89 em_lg89 it90 em_it90
            have hI91 : I8 lg89 it90 := by rw [em_it90]; exact i8_u hI85 (ok8_1 (oq_486) (fun _ => by rw [em_q88]; exact stF_01 _ _ _ _ _))
            have hK92 : Kc (fun j => (2 ≤ j ∧ j < 19) ∨ (486 ≤ j ∧ j < 489)) lg0 it0 lg89 it90 := by rw [em_lg89, em_it90]; exact kc_f (by first | omega | (dsimp only; omega)) hK86
            have e93 : (it90 2 0).toInt = (it84 2 0).toInt := by rw [em_it90]; exact congrArg Int32.toInt (congrFun (u2_row (by decide)) 0)
            refine ⟨fun c91 => ?_, fun c91 => ?_⟩
            · try simp only [Int32.lt_iff_toInt_lt, Int32.le_iff_toInt_le, ← Int32.toInt_inj, Int32.toInt_toInt64, ti_m14, ti_m13, ti_m12, ti_m11, ti_m10, ti_m9, ti_m6, ti_m5, ti_m4, ti_m3, ti_m2, ti_m1, ti_0, ti_1, ti_2, ti_3, ti_4, ti_5, ti_6, ti_7, ti_8, ti_9, ti_10, ti_11, ti_12, ti_19, ti_20, ti_21, ti_44, ti_45, ti_48, ti_57, ti_59, ti_60, ti_98, ti_99, ti_100, ti_101, ti_103, ti_108, ti_110, ti_114, ti_127] at c91
              subst hp
              exact ⟨hI91, hK92⟩
            · try simp only [Int32.lt_iff_toInt_lt, Int32.le_iff_toInt_le, ← Int32.toInt_inj, Int32.toInt_toInt64, ti_m14, ti_m13, ti_m12, ti_m11, ti_m10, ti_m9, ti_m6, ti_m5, ti_m4, ti_m3, ti_m2, ti_m1, ti_0, ti_1, ti_2, ti_3, ti_4, ti_5, ti_6, ti_7, ti_8, ti_9, ti_10, ti_11, ti_12, ti_19, ti_20, ti_21, ti_44, ti_45, ti_48, ti_57, ti_59, ti_60, ti_98, ti_99, ti_100, ti_101, ti_103, ti_108, ti_110, ti_114, ti_127] at c91
              refine ⟨fun c103 => ?_, fun c103 => ?_⟩
              · try simp only [Int32.lt_iff_toInt_lt, Int32.le_iff_toInt_le, ← Int32.toInt_inj, Int32.toInt_toInt64, ti_m14, ti_m13, ti_m12, ti_m11, ti_m10, ti_m9, ti_m6, ti_m5, ti_m4, ti_m3, ti_m2, ti_m1, ti_0, ti_1, ti_2, ti_3, ti_4, ti_5, ti_6, ti_7, ti_8, ti_9, ti_10, ti_11, ti_12, ti_19, ti_20, ti_21, ti_44, ti_45, ti_48, ti_57, ti_59, ti_60, ti_98, ti_99, ti_100, ti_101, ti_103, ti_108, ti_110, ti_114, ti_127] at c103
                unfold w_X8_bumper_b109
                have f94 : 0 ≤ (it90 2 0).toInt ∧ (it90 2 0).toInt ≤ 6 := i8_3 hI91 (oq_2)
                refine ⟨fun c116 => ?_, fun c116 => ?_⟩
                · try simp only [Int32.lt_iff_toInt_lt, Int32.le_iff_toInt_le, ← Int32.toInt_inj, Int32.toInt_toInt64, ti_m14, ti_m13, ti_m12, ti_m11, ti_m10, ti_m9, ti_m6, ti_m5, ti_m4, ti_m3, ti_m2, ti_m1, ti_0, ti_1, ti_2, ti_3, ti_4, ti_5, ti_6, ti_7, ti_8, ti_9, ti_10, ti_11, ti_12, ti_19, ti_20, ti_21, ti_44, ti_45, ti_48, ti_57, ti_59, ti_60, ti_98, ti_99, ti_100, ti_101, ti_103, ti_108, ti_110, ti_114, ti_127] at c116
                  have hi95 : vp_in (it90 2 0) 6 := vp_of (by first | omega | ((try simp only [Int32.lt_iff_toInt_lt, Int32.le_iff_toInt_le, ← Int32.toInt_inj, Int32.toInt_toInt64, ti_m14, ti_m13, ti_m12, ti_m11, ti_m10, ti_m9, ti_m6, ti_m5, ti_m4, ti_m3, ti_m2, ti_m1, ti_0, ti_1, ti_2, ti_3, ti_4, ti_5, ti_6, ti_7, ti_8, ti_9, ti_10, ti_11, ti_12, ti_19, ti_20, ti_21, ti_44, ti_45, ti_48, ti_57, ti_59, ti_60, ti_98, ti_99, ti_100, ti_101, ti_103, ti_108, ti_110, ti_114, ti_127]); omega) | (split <;> omega)) (by first | omega | ((try simp only [Int32.lt_iff_toInt_lt, Int32.le_iff_toInt_le, ← Int32.toInt_inj, Int32.toInt_toInt64, ti_m14, ti_m13, ti_m12, ti_m11, ti_m10, ti_m9, ti_m6, ti_m5, ti_m4, ti_m3, ti_m2, ti_m1, ti_0, ti_1, ti_2, ti_3, ti_4, ti_5, ti_6, ti_7, ti_8, ti_9, ti_10, ti_11, ti_12, ti_19, ti_20, ti_21, ti_44, ti_45, ti_48, ti_57, ti_59, ti_60, ti_98, ti_99, ti_100, ti_101, ti_103, ti_108, ti_110, ti_114, ti_127]); omega) | (split <;> omega))
                  refine ⟨hi95, ?_⟩
                  have hz96 := vlt hi95
                  intro lg97 em_lg97 it98 em_it98
                  have hI99 : I8 lg97 it98 := by rw [em_it98]; exact i8_u hI91 (ok8_1 ((rpo4 in_rb_2 (vlt (hi95)))) (fun _ => Or.inl rfl))
                  have hK100 : Kc (fun j => (2 ≤ j ∧ j < 19) ∨ (486 ≤ j ∧ j < 489)) lg0 it0 lg97 it98 := by rw [em_lg97, em_it98]; exact kc_f (by first | omega | (dsimp only; omega)) hK92
                  try have e101 : (it98 2 0).toInt = (it90 2 0).toInt := by rw [em_it98]; exact congrArg Int32.toInt (congrFun (u2_row (by omega)) 0)
                  try have e102 : (it98 486 2).toInt = (it90 486 2).toInt := by rw [em_it98]; exact congrArg Int32.toInt (congrFun (u2_row (by omega)) 2)
                  have hi103 : vp_in (it90 2 0) 6 := vp_of (by first | omega | ((try simp only [Int32.lt_iff_toInt_lt, Int32.le_iff_toInt_le, ← Int32.toInt_inj, Int32.toInt_toInt64, ti_m14, ti_m13, ti_m12, ti_m11, ti_m10, ti_m9, ti_m6, ti_m5, ti_m4, ti_m3, ti_m2, ti_m1, ti_0, ti_1, ti_2, ti_3, ti_4, ti_5, ti_6, ti_7, ti_8, ti_9, ti_10, ti_11, ti_12, ti_19, ti_20, ti_21, ti_44, ti_45, ti_48, ti_57, ti_59, ti_60, ti_98, ti_99, ti_100, ti_101, ti_103, ti_108, ti_110, ti_114, ti_127]); omega) | (split <;> omega)) (by first | omega | ((try simp only [Int32.lt_iff_toInt_lt, Int32.le_iff_toInt_le, ← Int32.toInt_inj, Int32.toInt_toInt64, ti_m14, ti_m13, ti_m12, ti_m11, ti_m10, ti_m9, ti_m6, ti_m5, ti_m4, ti_m3, ti_m2, ti_m1, ti_0, ti_1, ti_2, ti_3, ti_4, ti_5, ti_6, ti_7, ti_8, ti_9, ti_10, ti_11, ti_12, ti_19, ti_20, ti_21, ti_44, ti_45, ti_48, ti_57, ti_59, ti_60, ti_98, ti_99, ti_100, ti_101, ti_103, ti_108, ti_110, ti_114, ti_127]); omega) | (split <;> omega))
                  refine ⟨hi103, ?_⟩
                  have hz104 := vlt hi103
                  intro it105 em106
                  have hI107 : I8 lg97 it105 := by rw [em106]; exact i8_u hI99 (ok8_a (oq_3) (by decide))
                  have hK108 : Kc (fun j => (2 ≤ j ∧ j < 19) ∨ (486 ≤ j ∧ j < 489)) lg0 it0 lg97 it105 := by rw [em106]; exact kc_u (by first | omega | (dsimp only; omega)) hK100
                  have e109 : (it105 2 0).toInt = (it98 2 0).toInt := by rw [em106]; exact congrArg Int32.toInt (congrFun (u2_row (by decide)) 0)
                  have e110 : (it105 486 2).toInt = (it98 486 2).toInt := by rw [em106]; exact congrArg Int32.toInt (congrFun (u2_row (by decide)) 2)
                  have hi111 : vp_in (it90 2 0) 6 := vp_of (by first | omega | ((try simp only [Int32.lt_iff_toInt_lt, Int32.le_iff_toInt_le, ← Int32.toInt_inj, Int32.toInt_toInt64, ti_m14, ti_m13, ti_m12, ti_m11, ti_m10, ti_m9, ti_m6, ti_m5, ti_m4, ti_m3, ti_m2, ti_m1, ti_0, ti_1, ti_2, ti_3, ti_4, ti_5, ti_6, ti_7, ti_8, ti_9, ti_10, ti_11, ti_12, ti_19, ti_20, ti_21, ti_44, ti_45, ti_48, ti_57, ti_59, ti_60, ti_98, ti_99, ti_100, ti_101, ti_103, ti_108, ti_110, ti_114, ti_127]); omega) | (split <;> omega)) (by first | omega | ((try simp only [Int32.lt_iff_toInt_lt, Int32.le_iff_toInt_le, ← Int32.toInt_inj, Int32.toInt_toInt64, ti_m14, ti_m13, ti_m12, ti_m11, ti_m10, ti_m9, ti_m6, ti_m5, ti_m4, ti_m3, ti_m2, ti_m1, ti_0, ti_1, ti_2, ti_3, ti_4, ti_5, ti_6, ti_7, ti_8, ti_9, ti_10, ti_11, ti_12, ti_19, ti_20, ti_21, ti_44, ti_45, ti_48, ti_57, ti_59, ti_60, ti_98, ti_99, ti_100, ti_101, ti_103, ti_108, ti_110, ti_114, ti_127]); omega) | (split <;> omega))
                  refine ⟨hi111, ?_⟩
                  have hz112 := vlt hi111
                  intro lg113 em_lg113 it114 em_it114
                  have hI115 : I8 lg113 it114 := by rw [em_it114]; exact i8_u hI107 (ok8_1 ((rpo5 in_rb_2 (vlt (hi111)))) (fun _ => Or.inl rfl))
                  have hK116 : Kc (fun j => (2 ≤ j ∧ j < 19) ∨ (486 ≤ j ∧ j < 489)) lg0 it0 lg113 it114 := by rw [em_lg113, em_it114]; exact kc_f (by first | omega | (dsimp only; omega)) hK108
                  try have e117 : (it114 2 0).toInt = (it105 2 0).toInt := by rw [em_it114]; exact congrArg Int32.toInt (congrFun (u2_row (by omega)) 0)
                  try have e118 : (it114 486 2).toInt = (it105 486 2).toInt := by rw [em_it114]; exact congrArg Int32.toInt (congrFun (u2_row (by omega)) 2)
                  try have f119 : (((it90 2 0) + 1) : Int32).toInt = ((it90 2 0)).toInt + 1 := ad32 (a := ((it90 2 0)).toInt) (b := 1) (rfl) (ti_1) (by omega) (by omega)
                  intro it120 em121
                  have hI122 : I8 lg113 it120 := by rw [em121]; exact i8_u hI115 (ok8_3 (oq_2) (fun _ => by (try simp only [Int32.lt_iff_toInt_lt, Int32.le_iff_toInt_le, ← Int32.toInt_inj, Int32.toInt_toInt64, ti_m14, ti_m13, ti_m12, ti_m11, ti_m10, ti_m9, ti_m6, ti_m5, ti_m4, ti_m3, ti_m2, ti_m1, ti_0, ti_1, ti_2, ti_3, ti_4, ti_5, ti_6, ti_7, ti_8, ti_9, ti_10, ti_11, ti_12, ti_19, ti_20, ti_21, ti_44, ti_45, ti_48, ti_57, ti_59, ti_60, ti_98, ti_99, ti_100, ti_101, ti_103, ti_108, ti_110, ti_114, ti_127]); omega))
                  have hK123 : Kc (fun j => (2 ≤ j ∧ j < 19) ∨ (486 ≤ j ∧ j < 489)) lg0 it0 lg113 it120 := by rw [em121]; exact kc_u (by first | omega | (dsimp only; omega)) hK116
                  have e125 : (it120 486 2).toInt = (it114 486 2).toInt := by rw [em121]; exact congrArg Int32.toInt (congrFun (u2_row (by decide)) 2)
                  subst hp
                  exact ⟨hI122, hK123⟩
                · try simp only [Int32.lt_iff_toInt_lt, Int32.le_iff_toInt_le, ← Int32.toInt_inj, Int32.toInt_toInt64, ti_m14, ti_m13, ti_m12, ti_m11, ti_m10, ti_m9, ti_m6, ti_m5, ti_m4, ti_m3, ti_m2, ti_m1, ti_0, ti_1, ti_2, ti_3, ti_4, ti_5, ti_6, ti_7, ti_8, ti_9, ti_10, ti_11, ti_12, ti_19, ti_20, ti_21, ti_44, ti_45, ti_48, ti_57, ti_59, ti_60, ti_98, ti_99, ti_100, ti_101, ti_103, ti_108, ti_110, ti_114, ti_127] at c116
                  subst hp
                  exact ⟨hI91, hK92⟩
              · try simp only [Int32.lt_iff_toInt_lt, Int32.le_iff_toInt_le, ← Int32.toInt_inj, Int32.toInt_toInt64, ti_m14, ti_m13, ti_m12, ti_m11, ti_m10, ti_m9, ti_m6, ti_m5, ti_m4, ti_m3, ti_m2, ti_m1, ti_0, ti_1, ti_2, ti_3, ti_4, ti_5, ti_6, ti_7, ti_8, ti_9, ti_10, ti_11, ti_12, ti_19, ti_20, ti_21, ti_44, ti_45, ti_48, ti_57, ti_59, ti_60, ti_98, ti_99, ti_100, ti_101, ti_103, ti_108, ti_110, ti_114, ti_127] at c103
                subst hp
                exact ⟨hI91, hK92⟩
        · try simp only [Int32.lt_iff_toInt_lt, Int32.le_iff_toInt_le, ← Int32.toInt_inj, Int32.toInt_toInt64, ti_m14, ti_m13, ti_m12, ti_m11, ti_m10, ti_m9, ti_m6, ti_m5, ti_m4, ti_m3, ti_m2, ti_m1, ti_0, ti_1, ti_2, ti_3, ti_4, ti_5, ti_6, ti_7, ti_8, ti_9, ti_10, ti_11, ti_12, ti_19, ti_20, ti_21, ti_44, ti_45, ti_48, ti_57, ti_59, ti_60, ti_98, ti_99, ti_100, ti_101, ti_103, ti_108, ti_110, ti_114, ti_127] at c30
          subst hp
          exact ⟨hI, hKr⟩
set_option maxRecDepth 100000 in
theorem s_X8_renew (a1 : Int32) (a2 : Int32) (a3 : Int32) {lg0 : LGt} {it0 : ITt} (hI : I8 lg0 it0) : w_X8_renew a1 a2 a3 (fun (v : Int32) (lg' : LGt) (it' : ITt) => (I8 lg' it' ∧ Kc (fun j => (2 ≤ j ∧ j < 19)) lg0 it0 lg' it'))  lg0 it0 := by
  have hb_a1 := And.intro a1.le_toInt a1.toInt_lt
  have hb_a2 := And.intro a2.le_toInt a2.toInt_lt
  have hb_a3 := And.intro a3.le_toInt a3.toInt_lt
  have hKr : Kc (fun j => (2 ≤ j ∧ j < 19)) lg0 it0 lg0 it0 := kc_r
  generalize hp : (fun (v : Int32) (lg' : LGt) (it' : ITt) => (I8 lg' it' ∧ Kc (fun j => (2 ≤ j ∧ j < 19)) lg0 it0 lg' it')) = Pz
  unfold w_X8_renew
  have f23 : 0 ≤ (it0 2 0).toInt ∧ (it0 2 0).toInt ≤ 6 := i8_3 hI oq_2
  refine ⟨fun c14 => ?_, fun c14 => ?_⟩
  · try simp only [Int32.lt_iff_toInt_lt, Int32.le_iff_toInt_le, ← Int32.toInt_inj, Int32.toInt_toInt64, ti_m14, ti_m13, ti_m12, ti_m11, ti_m10, ti_m9, ti_m6, ti_m5, ti_m4, ti_m3, ti_m2, ti_m1, ti_0, ti_1, ti_2, ti_3, ti_4, ti_5, ti_6, ti_7, ti_8, ti_9, ti_10, ti_11, ti_12, ti_19, ti_20, ti_21, ti_44, ti_45, ti_48, ti_57, ti_59, ti_60, ti_98, ti_99, ti_100, ti_101, ti_103, ti_108, ti_110, ti_114, ti_127] at c14
    subst hp
    exact ⟨hI, hKr⟩
  · try simp only [Int32.lt_iff_toInt_lt, Int32.le_iff_toInt_le, ← Int32.toInt_inj, Int32.toInt_toInt64, ti_m14, ti_m13, ti_m12, ti_m11, ti_m10, ti_m9, ti_m6, ti_m5, ti_m4, ti_m3, ti_m2, ti_m1, ti_0, ti_1, ti_2, ti_3, ti_4, ti_5, ti_6, ti_7, ti_8, ti_9, ti_10, ti_11, ti_12, ti_19, ti_20, ti_21, ti_44, ti_45, ti_48, ti_57, ti_59, ti_60, ti_98, ti_99, ti_100, ti_101, ti_103, ti_108, ti_110, ti_114, ti_127] at c14
    refine ⟨fun c18 => ?_, fun c18 => ?_⟩
    · try simp only [Int32.lt_iff_toInt_lt, Int32.le_iff_toInt_le, ← Int32.toInt_inj, Int32.toInt_toInt64, ti_m14, ti_m13, ti_m12, ti_m11, ti_m10, ti_m9, ti_m6, ti_m5, ti_m4, ti_m3, ti_m2, ti_m1, ti_0, ti_1, ti_2, ti_3, ti_4, ti_5, ti_6, ti_7, ti_8, ti_9, ti_10, ti_11, ti_12, ti_19, ti_20, ti_21, ti_44, ti_45, ti_48, ti_57, ti_59, ti_60, ti_98, ti_99, ti_100, ti_101, ti_103, ti_108, ti_110, ti_114, ti_127] at c18
      subst hp
      exact ⟨hI, hKr⟩
    · try simp only [Int32.lt_iff_toInt_lt, Int32.le_iff_toInt_le, ← Int32.toInt_inj, Int32.toInt_toInt64, ti_m14, ti_m13, ti_m12, ti_m11, ti_m10, ti_m9, ti_m6, ti_m5, ti_m4, ti_m3, ti_m2, ti_m1, ti_0, ti_1, ti_2, ti_3, ti_4, ti_5, ti_6, ti_7, ti_8, ti_9, ti_10, ti_11, ti_12, ti_19, ti_20, ti_21, ti_44, ti_45, ti_48, ti_57, ti_59, ti_60, ti_98, ti_99, ti_100, ti_101, ti_103, ti_108, ti_110, ti_114, ti_127] at c18
      refine ⟨fun c23 => ?_, fun c23 => ?_⟩
      · try simp only [Int32.lt_iff_toInt_lt, Int32.le_iff_toInt_le, ← Int32.toInt_inj, Int32.toInt_toInt64, ti_m14, ti_m13, ti_m12, ti_m11, ti_m10, ti_m9, ti_m6, ti_m5, ti_m4, ti_m3, ti_m2, ti_m1, ti_0, ti_1, ti_2, ti_3, ti_4, ti_5, ti_6, ti_7, ti_8, ti_9, ti_10, ti_11, ti_12, ti_19, ti_20, ti_21, ti_44, ti_45, ti_48, ti_57, ti_59, ti_60, ti_98, ti_99, ti_100, ti_101, ti_103, ti_108, ti_110, ti_114, ti_127] at c23
        refine ⟨fun c29 => ?_, fun c29 => ?_⟩
        · try simp only [Int32.lt_iff_toInt_lt, Int32.le_iff_toInt_le, ← Int32.toInt_inj, Int32.toInt_toInt64, ti_m14, ti_m13, ti_m12, ti_m11, ti_m10, ti_m9, ti_m6, ti_m5, ti_m4, ti_m3, ti_m2, ti_m1, ti_0, ti_1, ti_2, ti_3, ti_4, ti_5, ti_6, ti_7, ti_8, ti_9, ti_10, ti_11, ti_12, ti_19, ti_20, ti_21, ti_44, ti_45, ti_48, ti_57, ti_59, ti_60, ti_98, ti_99, ti_100, ti_101, ti_103, ti_108, ti_110, ti_114, ti_127] at c29
          refine ⟨fun c46 => ?_, fun c46 => ?_⟩
          · try simp only [Int32.lt_iff_toInt_lt, Int32.le_iff_toInt_le, ← Int32.toInt_inj, Int32.toInt_toInt64, ti_m14, ti_m13, ti_m12, ti_m11, ti_m10, ti_m9, ti_m6, ti_m5, ti_m4, ti_m3, ti_m2, ti_m1, ti_0, ti_1, ti_2, ti_3, ti_4, ti_5, ti_6, ti_7, ti_8, ti_9, ti_10, ti_11, ti_12, ti_19, ti_20, ti_21, ti_44, ti_45, ti_48, ti_57, ti_59, ti_60, ti_98, ti_99, ti_100, ti_101, ti_103, ti_108, ti_110, ti_114, ti_127] at c46
            unfold w_X8_renew_b52
            refine ⟨fun c53 => ?_, fun c53 => ?_⟩
            · try simp only [Int32.lt_iff_toInt_lt, Int32.le_iff_toInt_le, ← Int32.toInt_inj, Int32.toInt_toInt64, ti_m14, ti_m13, ti_m12, ti_m11, ti_m10, ti_m9, ti_m6, ti_m5, ti_m4, ti_m3, ti_m2, ti_m1, ti_0, ti_1, ti_2, ti_3, ti_4, ti_5, ti_6, ti_7, ti_8, ti_9, ti_10, ti_11, ti_12, ti_19, ti_20, ti_21, ti_44, ti_45, ti_48, ti_57, ti_59, ti_60, ti_98, ti_99, ti_100, ti_101, ti_103, ti_108, ti_110, ti_114, ti_127] at c53
              have hi24 : vp_in a1 6 := vp_of (by first | omega | ((try simp only [Int32.lt_iff_toInt_lt, Int32.le_iff_toInt_le, ← Int32.toInt_inj, Int32.toInt_toInt64, ti_m14, ti_m13, ti_m12, ti_m11, ti_m10, ti_m9, ti_m6, ti_m5, ti_m4, ti_m3, ti_m2, ti_m1, ti_0, ti_1, ti_2, ti_3, ti_4, ti_5, ti_6, ti_7, ti_8, ti_9, ti_10, ti_11, ti_12, ti_19, ti_20, ti_21, ti_44, ti_45, ti_48, ti_57, ti_59, ti_60, ti_98, ti_99, ti_100, ti_101, ti_103, ti_108, ti_110, ti_114, ti_127]); omega) | (split <;> omega)) (by first | omega | ((try simp only [Int32.lt_iff_toInt_lt, Int32.le_iff_toInt_le, ← Int32.toInt_inj, Int32.toInt_toInt64, ti_m14, ti_m13, ti_m12, ti_m11, ti_m10, ti_m9, ti_m6, ti_m5, ti_m4, ti_m3, ti_m2, ti_m1, ti_0, ti_1, ti_2, ti_3, ti_4, ti_5, ti_6, ti_7, ti_8, ti_9, ti_10, ti_11, ti_12, ti_19, ti_20, ti_21, ti_44, ti_45, ti_48, ti_57, ti_59, ti_60, ti_98, ti_99, ti_100, ti_101, ti_103, ti_108, ti_110, ti_114, ti_127]); omega) | (split <;> omega))
              refine ⟨hi24, ?_⟩
              have hz25 := vlt hi24
              intro lg26 em_lg26 it27 em_it27
              have hI28 : I8 lg26 it27 := by rw [em_it27]; exact i8_u hI (ok8_1 ((rpo5 in_rb_2 (vlt (hi24)))) (fun _ => Or.inl rfl))
              have hK29 : Kc (fun j => (2 ≤ j ∧ j < 19)) lg0 it0 lg26 it27 := by rw [em_lg26, em_it27]; exact kc_f (by first | omega | (dsimp only; omega)) hKr
              have f30 : 0 ≤ (it27 2 0).toInt ∧ (it27 2 0).toInt ≤ 6 := i8_3 hI28 (oq_2)
              subst hp
              exact ⟨hI28, hK29⟩
            · try simp only [Int32.lt_iff_toInt_lt, Int32.le_iff_toInt_le, ← Int32.toInt_inj, Int32.toInt_toInt64, ti_m14, ti_m13, ti_m12, ti_m11, ti_m10, ti_m9, ti_m6, ti_m5, ti_m4, ti_m3, ti_m2, ti_m1, ti_0, ti_1, ti_2, ti_3, ti_4, ti_5, ti_6, ti_7, ti_8, ti_9, ti_10, ti_11, ti_12, ti_19, ti_20, ti_21, ti_44, ti_45, ti_48, ti_57, ti_59, ti_60, ti_98, ti_99, ti_100, ti_101, ti_103, ti_108, ti_110, ti_114, ti_127] at c53
              have hi31 : vp_in a1 6 := vp_of (by first | omega | ((try simp only [Int32.lt_iff_toInt_lt, Int32.le_iff_toInt_le, ← Int32.toInt_inj, Int32.toInt_toInt64, ti_m14, ti_m13, ti_m12, ti_m11, ti_m10, ti_m9, ti_m6, ti_m5, ti_m4, ti_m3, ti_m2, ti_m1, ti_0, ti_1, ti_2, ti_3, ti_4, ti_5, ti_6, ti_7, ti_8, ti_9, ti_10, ti_11, ti_12, ti_19, ti_20, ti_21, ti_44, ti_45, ti_48, ti_57, ti_59, ti_60, ti_98, ti_99, ti_100, ti_101, ti_103, ti_108, ti_110, ti_114, ti_127]); omega) | (split <;> omega)) (by first | omega | ((try simp only [Int32.lt_iff_toInt_lt, Int32.le_iff_toInt_le, ← Int32.toInt_inj, Int32.toInt_toInt64, ti_m14, ti_m13, ti_m12, ti_m11, ti_m10, ti_m9, ti_m6, ti_m5, ti_m4, ti_m3, ti_m2, ti_m1, ti_0, ti_1, ti_2, ti_3, ti_4, ti_5, ti_6, ti_7, ti_8, ti_9, ti_10, ti_11, ti_12, ti_19, ti_20, ti_21, ti_44, ti_45, ti_48, ti_57, ti_59, ti_60, ti_98, ti_99, ti_100, ti_101, ti_103, ti_108, ti_110, ti_114, ti_127]); omega) | (split <;> omega))
              refine ⟨hi31, ?_⟩
              have hz32 := vlt hi31
              intro it33 em34
              have hI35 : I8 lg0 it33 := by rw [em34]; exact i8_u hI (ok8_a (oq_3) (by decide))
              have hK36 : Kc (fun j => (2 ≤ j ∧ j < 19)) lg0 it0 lg0 it33 := by rw [em34]; exact kc_u (by first | omega | (dsimp only; omega)) hKr
              have f37 : 0 ≤ (it33 2 0).toInt ∧ (it33 2 0).toInt ≤ 6 := i8_3 hI35 (oq_2)
              subst hp
              exact ⟨hI35, hK36⟩
          · try simp only [Int32.lt_iff_toInt_lt, Int32.le_iff_toInt_le, ← Int32.toInt_inj, Int32.toInt_toInt64, ti_m14, ti_m13, ti_m12, ti_m11, ti_m10, ti_m9, ti_m6, ti_m5, ti_m4, ti_m3, ti_m2, ti_m1, ti_0, ti_1, ti_2, ti_3, ti_4, ti_5, ti_6, ti_7, ti_8, ti_9, ti_10, ti_11, ti_12, ti_19, ti_20, ti_21, ti_44, ti_45, ti_48, ti_57, ti_59, ti_60, ti_98, ti_99, ti_100, ti_101, ti_103, ti_108, ti_110, ti_114, ti_127] at c46
            subst hp
            exact ⟨hI, hKr⟩
        · try simp only [Int32.lt_iff_toInt_lt, Int32.le_iff_toInt_le, ← Int32.toInt_inj, Int32.toInt_toInt64, ti_m14, ti_m13, ti_m12, ti_m11, ti_m10, ti_m9, ti_m6, ti_m5, ti_m4, ti_m3, ti_m2, ti_m1, ti_0, ti_1, ti_2, ti_3, ti_4, ti_5, ti_6, ti_7, ti_8, ti_9, ti_10, ti_11, ti_12, ti_19, ti_20, ti_21, ti_44, ti_45, ti_48, ti_57, ti_59, ti_60, ti_98, ti_99, ti_100, ti_101, ti_103, ti_108, ti_110, ti_114, ti_127] at c29
          refine ⟨fun c36 => ?_, fun c36 => ?_⟩
          · try simp only [Int32.lt_iff_toInt_lt, Int32.le_iff_toInt_le, ← Int32.toInt_inj, Int32.toInt_toInt64, ti_m14, ti_m13, ti_m12, ti_m11, ti_m10, ti_m9, ti_m6, ti_m5, ti_m4, ti_m3, ti_m2, ti_m1, ti_0, ti_1, ti_2, ti_3, ti_4, ti_5, ti_6, ti_7, ti_8, ti_9, ti_10, ti_11, ti_12, ti_19, ti_20, ti_21, ti_44, ti_45, ti_48, ti_57, ti_59, ti_60, ti_98, ti_99, ti_100, ti_101, ti_103, ti_108, ti_110, ti_114, ti_127] at c36
            unfold w_X8_renew_b52
            refine ⟨fun c53 => ?_, fun c53 => ?_⟩
            · try simp only [Int32.lt_iff_toInt_lt, Int32.le_iff_toInt_le, ← Int32.toInt_inj, Int32.toInt_toInt64, ti_m14, ti_m13, ti_m12, ti_m11, ti_m10, ti_m9, ti_m6, ti_m5, ti_m4, ti_m3, ti_m2, ti_m1, ti_0, ti_1, ti_2, ti_3, ti_4, ti_5, ti_6, ti_7, ti_8, ti_9, ti_10, ti_11, ti_12, ti_19, ti_20, ti_21, ti_44, ti_45, ti_48, ti_57, ti_59, ti_60, ti_98, ti_99, ti_100, ti_101, ti_103, ti_108, ti_110, ti_114, ti_127] at c53
              have hi38 : vp_in a1 6 := vp_of (by first | omega | ((try simp only [Int32.lt_iff_toInt_lt, Int32.le_iff_toInt_le, ← Int32.toInt_inj, Int32.toInt_toInt64, ti_m14, ti_m13, ti_m12, ti_m11, ti_m10, ti_m9, ti_m6, ti_m5, ti_m4, ti_m3, ti_m2, ti_m1, ti_0, ti_1, ti_2, ti_3, ti_4, ti_5, ti_6, ti_7, ti_8, ti_9, ti_10, ti_11, ti_12, ti_19, ti_20, ti_21, ti_44, ti_45, ti_48, ti_57, ti_59, ti_60, ti_98, ti_99, ti_100, ti_101, ti_103, ti_108, ti_110, ti_114, ti_127]); omega) | (split <;> omega)) (by first | omega | ((try simp only [Int32.lt_iff_toInt_lt, Int32.le_iff_toInt_le, ← Int32.toInt_inj, Int32.toInt_toInt64, ti_m14, ti_m13, ti_m12, ti_m11, ti_m10, ti_m9, ti_m6, ti_m5, ti_m4, ti_m3, ti_m2, ti_m1, ti_0, ti_1, ti_2, ti_3, ti_4, ti_5, ti_6, ti_7, ti_8, ti_9, ti_10, ti_11, ti_12, ti_19, ti_20, ti_21, ti_44, ti_45, ti_48, ti_57, ti_59, ti_60, ti_98, ti_99, ti_100, ti_101, ti_103, ti_108, ti_110, ti_114, ti_127]); omega) | (split <;> omega))
              refine ⟨hi38, ?_⟩
              have hz39 := vlt hi38
              intro lg40 em_lg40 it41 em_it41
              have hI42 : I8 lg40 it41 := by rw [em_it41]; exact i8_u hI (ok8_1 ((rpo5 in_rb_2 (vlt (hi38)))) (fun _ => Or.inl rfl))
              have hK43 : Kc (fun j => (2 ≤ j ∧ j < 19)) lg0 it0 lg40 it41 := by rw [em_lg40, em_it41]; exact kc_f (by first | omega | (dsimp only; omega)) hKr
              have f44 : 0 ≤ (it41 2 0).toInt ∧ (it41 2 0).toInt ≤ 6 := i8_3 hI42 (oq_2)
              subst hp
              exact ⟨hI42, hK43⟩
            · try simp only [Int32.lt_iff_toInt_lt, Int32.le_iff_toInt_le, ← Int32.toInt_inj, Int32.toInt_toInt64, ti_m14, ti_m13, ti_m12, ti_m11, ti_m10, ti_m9, ti_m6, ti_m5, ti_m4, ti_m3, ti_m2, ti_m1, ti_0, ti_1, ti_2, ti_3, ti_4, ti_5, ti_6, ti_7, ti_8, ti_9, ti_10, ti_11, ti_12, ti_19, ti_20, ti_21, ti_44, ti_45, ti_48, ti_57, ti_59, ti_60, ti_98, ti_99, ti_100, ti_101, ti_103, ti_108, ti_110, ti_114, ti_127] at c53
              have hi45 : vp_in a1 6 := vp_of (by first | omega | ((try simp only [Int32.lt_iff_toInt_lt, Int32.le_iff_toInt_le, ← Int32.toInt_inj, Int32.toInt_toInt64, ti_m14, ti_m13, ti_m12, ti_m11, ti_m10, ti_m9, ti_m6, ti_m5, ti_m4, ti_m3, ti_m2, ti_m1, ti_0, ti_1, ti_2, ti_3, ti_4, ti_5, ti_6, ti_7, ti_8, ti_9, ti_10, ti_11, ti_12, ti_19, ti_20, ti_21, ti_44, ti_45, ti_48, ti_57, ti_59, ti_60, ti_98, ti_99, ti_100, ti_101, ti_103, ti_108, ti_110, ti_114, ti_127]); omega) | (split <;> omega)) (by first | omega | ((try simp only [Int32.lt_iff_toInt_lt, Int32.le_iff_toInt_le, ← Int32.toInt_inj, Int32.toInt_toInt64, ti_m14, ti_m13, ti_m12, ti_m11, ti_m10, ti_m9, ti_m6, ti_m5, ti_m4, ti_m3, ti_m2, ti_m1, ti_0, ti_1, ti_2, ti_3, ti_4, ti_5, ti_6, ti_7, ti_8, ti_9, ti_10, ti_11, ti_12, ti_19, ti_20, ti_21, ti_44, ti_45, ti_48, ti_57, ti_59, ti_60, ti_98, ti_99, ti_100, ti_101, ti_103, ti_108, ti_110, ti_114, ti_127]); omega) | (split <;> omega))
              refine ⟨hi45, ?_⟩
              have hz46 := vlt hi45
              intro it47 em48
              have hI49 : I8 lg0 it47 := by rw [em48]; exact i8_u hI (ok8_a (oq_3) (by decide))
              have hK50 : Kc (fun j => (2 ≤ j ∧ j < 19)) lg0 it0 lg0 it47 := by rw [em48]; exact kc_u (by first | omega | (dsimp only; omega)) hKr
              have f51 : 0 ≤ (it47 2 0).toInt ∧ (it47 2 0).toInt ≤ 6 := i8_3 hI49 (oq_2)
              subst hp
              exact ⟨hI49, hK50⟩
          · try simp only [Int32.lt_iff_toInt_lt, Int32.le_iff_toInt_le, ← Int32.toInt_inj, Int32.toInt_toInt64, ti_m14, ti_m13, ti_m12, ti_m11, ti_m10, ti_m9, ti_m6, ti_m5, ti_m4, ti_m3, ti_m2, ti_m1, ti_0, ti_1, ti_2, ti_3, ti_4, ti_5, ti_6, ti_7, ti_8, ti_9, ti_10, ti_11, ti_12, ti_19, ti_20, ti_21, ti_44, ti_45, ti_48, ti_57, ti_59, ti_60, ti_98, ti_99, ti_100, ti_101, ti_103, ti_108, ti_110, ti_114, ti_127] at c36
            subst hp
            exact ⟨hI, hKr⟩
      · try simp only [Int32.lt_iff_toInt_lt, Int32.le_iff_toInt_le, ← Int32.toInt_inj, Int32.toInt_toInt64, ti_m14, ti_m13, ti_m12, ti_m11, ti_m10, ti_m9, ti_m6, ti_m5, ti_m4, ti_m3, ti_m2, ti_m1, ti_0, ti_1, ti_2, ti_3, ti_4, ti_5, ti_6, ti_7, ti_8, ti_9, ti_10, ti_11, ti_12, ti_19, ti_20, ti_21, ti_44, ti_45, ti_48, ti_57, ti_59, ti_60, ti_98, ti_99, ti_100, ti_101, ti_103, ti_108, ti_110, ti_114, ti_127] at c23
        subst hp
        exact ⟨hI, hKr⟩
set_option maxRecDepth 100000 in
theorem s_X8_spring (a1 : Int32) {lg0 : LGt} {it0 : ITt} (hI : I8 lg0 it0) : w_X8_spring a1 (fun (v : Int32) (lg' : LGt) (it' : ITt) => (I8 lg' it' ∧ Kc (fun j => (2 ≤ j ∧ j < 19)) lg0 it0 lg' it'))  lg0 it0 := by
  have hb_a1 := And.intro a1.le_toInt a1.toInt_lt
  have hKr : Kc (fun j => (2 ≤ j ∧ j < 19)) lg0 it0 lg0 it0 := kc_r
  generalize hp : (fun (v : Int32) (lg' : LGt) (it' : ITt) => (I8 lg' it' ∧ Kc (fun j => (2 ≤ j ∧ j < 19)) lg0 it0 lg' it')) = Pz
  unfold w_X8_spring
  refine ⟨fun c4 => ?_, fun c4 => ?_⟩
  · try simp only [Int32.lt_iff_toInt_lt, Int32.le_iff_toInt_le, ← Int32.toInt_inj, Int32.toInt_toInt64, ti_m14, ti_m13, ti_m12, ti_m11, ti_m10, ti_m9, ti_m6, ti_m5, ti_m4, ti_m3, ti_m2, ti_m1, ti_0, ti_1, ti_2, ti_3, ti_4, ti_5, ti_6, ti_7, ti_8, ti_9, ti_10, ti_11, ti_12, ti_19, ti_20, ti_21, ti_44, ti_45, ti_48, ti_57, ti_59, ti_60, ti_98, ti_99, ti_100, ti_101, ti_103, ti_108, ti_110, ti_114, ti_127] at c4
    intro it5 em6
    have hI7 : I8 lg0 it5 := by rw [em6]; exact i8_u hI (ok8_3 (oq_2) (fun q => absurd q (by decide)))
    have hK8 : Kc (fun j => (2 ≤ j ∧ j < 19)) lg0 it0 lg0 it5 := by rw [em6]; exact kc_u (by first | omega | (dsimp only; omega)) hKr
    subst hp
    exact ⟨hI7, hK8⟩
  · try simp only [Int32.lt_iff_toInt_lt, Int32.le_iff_toInt_le, ← Int32.toInt_inj, Int32.toInt_toInt64, ti_m14, ti_m13, ti_m12, ti_m11, ti_m10, ti_m9, ti_m6, ti_m5, ti_m4, ti_m3, ti_m2, ti_m1, ti_0, ti_1, ti_2, ti_3, ti_4, ti_5, ti_6, ti_7, ti_8, ti_9, ti_10, ti_11, ti_12, ti_19, ti_20, ti_21, ti_44, ti_45, ti_48, ti_57, ti_59, ti_60, ti_98, ti_99, ti_100, ti_101, ti_103, ti_108, ti_110, ti_114, ti_127] at c4
    subst hp
    exact ⟨hI, hKr⟩
set_option maxRecDepth 100000 in
theorem s_X8_wall (a1 : Int32) (a2 : Int32) {lg0 : LGt} {it0 : ITt} (hI : I8 lg0 it0) : w_X8_wall a1 a2 (fun (v : Int32) (lg' : LGt) (it' : ITt) => (I8 lg' it' ∧ Kc (fun j => (2 ≤ j ∧ j < 19) ∨ (486 ≤ j ∧ j < 489)) lg0 it0 lg' it'))  lg0 it0 := by
  have hb_a1 := And.intro a1.le_toInt a1.toInt_lt
  have hb_a2 := And.intro a2.le_toInt a2.toInt_lt
  have hKr : Kc (fun j => (2 ≤ j ∧ j < 19) ∨ (486 ≤ j ∧ j < 489)) lg0 it0 lg0 it0 := kc_r
  generalize hp : (fun (v : Int32) (lg' : LGt) (it' : ITt) => (I8 lg' it' ∧ Kc (fun j => (2 ≤ j ∧ j < 19) ∨ (486 ≤ j ∧ j < 489)) lg0 it0 lg' it')) = Pz
  unfold w_X8_wall
  refine ⟨fun c1 => ?_, fun c1 => ?_⟩
  · try simp only [Int32.lt_iff_toInt_lt, Int32.le_iff_toInt_le, ← Int32.toInt_inj, Int32.toInt_toInt64, ti_m14, ti_m13, ti_m12, ti_m11, ti_m10, ti_m9, ti_m6, ti_m5, ti_m4, ti_m3, ti_m2, ti_m1, ti_0, ti_1, ti_2, ti_3, ti_4, ti_5, ti_6, ti_7, ti_8, ti_9, ti_10, ti_11, ti_12, ti_19, ti_20, ti_21, ti_44, ti_45, ti_48, ti_57, ti_59, ti_60, ti_98, ti_99, ti_100, ti_101, ti_103, ti_108, ti_110, ti_114, ti_127] at c1
    unfold w_X8_wall_b11
    refine ⟨fun c13 => ?_, fun c13 => ?_⟩
    · try simp only [Int32.lt_iff_toInt_lt, Int32.le_iff_toInt_le, ← Int32.toInt_inj, Int32.toInt_toInt64, ti_m14, ti_m13, ti_m12, ti_m11, ti_m10, ti_m9, ti_m6, ti_m5, ti_m4, ti_m3, ti_m2, ti_m1, ti_0, ti_1, ti_2, ti_3, ti_4, ti_5, ti_6, ti_7, ti_8, ti_9, ti_10, ti_11, ti_12, ti_19, ti_20, ti_21, ti_44, ti_45, ti_48, ti_57, ti_59, ti_60, ti_98, ti_99, ti_100, ti_101, ti_103, ti_108, ti_110, ti_114, ti_127] at c13
      unfold w_X8_wall_b26
      refine ⟨fun c28 => ?_, fun c28 => ?_⟩
      · try simp only [Int32.lt_iff_toInt_lt, Int32.le_iff_toInt_le, ← Int32.toInt_inj, Int32.toInt_toInt64, ti_m14, ti_m13, ti_m12, ti_m11, ti_m10, ti_m9, ti_m6, ti_m5, ti_m4, ti_m3, ti_m2, ti_m1, ti_0, ti_1, ti_2, ti_3, ti_4, ti_5, ti_6, ti_7, ti_8, ti_9, ti_10, ti_11, ti_12, ti_19, ti_20, ti_21, ti_44, ti_45, ti_48, ti_57, ti_59, ti_60, ti_98, ti_99, ti_100, ti_101, ti_103, ti_108, ti_110, ti_114, ti_127] at c28
        unfold w_X8_wall_b49
        refine ⟨_, s_X8_toldWall  (a1) hI (by first | decide | omega | ((try simp only [Int32.lt_iff_toInt_lt, Int32.le_iff_toInt_le, ← Int32.toInt_inj, Int32.toInt_toInt64, ti_m14, ti_m13, ti_m12, ti_m11, ti_m10, ti_m9, ti_m6, ti_m5, ti_m4, ti_m3, ti_m2, ti_m1, ti_0, ti_1, ti_2, ti_3, ti_4, ti_5, ti_6, ti_7, ti_8, ti_9, ti_10, ti_11, ti_12, ti_19, ti_20, ti_21, ti_44, ti_45, ti_48, ti_57, ti_59, ti_60, ti_98, ti_99, ti_100, ti_101, ti_103, ti_108, ti_110, ti_114, ti_127]); omega)), ?_⟩
        intro v35 lg30 it31 hq
        obtain ⟨hI32, hK33⟩ := hq
        have hK34 : Kc (fun j => (2 ≤ j ∧ j < 19) ∨ (486 ≤ j ∧ j < 489)) lg0 it0 lg30 it31 := kc_t hKr hK33 (fun j hj => by first | omega | exact False.elim hj | (dsimp only at hj ⊢; omega))
        have hi37 : vp_in a1 2 := vp_of (by first | omega | ((try simp only [Int32.lt_iff_toInt_lt, Int32.le_iff_toInt_le, ← Int32.toInt_inj, Int32.toInt_toInt64, ti_m14, ti_m13, ti_m12, ti_m11, ti_m10, ti_m9, ti_m6, ti_m5, ti_m4, ti_m3, ti_m2, ti_m1, ti_0, ti_1, ti_2, ti_3, ti_4, ti_5, ti_6, ti_7, ti_8, ti_9, ti_10, ti_11, ti_12, ti_19, ti_20, ti_21, ti_44, ti_45, ti_48, ti_57, ti_59, ti_60, ti_98, ti_99, ti_100, ti_101, ti_103, ti_108, ti_110, ti_114, ti_127]); omega) | (split <;> omega)) (by first | omega | ((try simp only [Int32.lt_iff_toInt_lt, Int32.le_iff_toInt_le, ← Int32.toInt_inj, Int32.toInt_toInt64, ti_m14, ti_m13, ti_m12, ti_m11, ti_m10, ti_m9, ti_m6, ti_m5, ti_m4, ti_m3, ti_m2, ti_m1, ti_0, ti_1, ti_2, ti_3, ti_4, ti_5, ti_6, ti_7, ti_8, ti_9, ti_10, ti_11, ti_12, ti_19, ti_20, ti_21, ti_44, ti_45, ti_48, ti_57, ti_59, ti_60, ti_98, ti_99, ti_100, ti_101, ti_103, ti_108, ti_110, ti_114, ti_127]); omega) | (split <;> omega))
        refine ⟨hi37, ?_⟩
        have hz38 := vlt hi37
        intro it39 em40
        have hI41 : I8 lg30 it39 := by rw [em40]; exact i8_u hI32 (ok8_a (oq_18) (by decide))
        have hK42 : Kc (fun j => (2 ≤ j ∧ j < 19) ∨ (486 ≤ j ∧ j < 489)) lg0 it0 lg30 it39 := by rw [em40]; exact kc_u (by first | omega | (dsimp only; omega)) hK34
        subst hp
        exact ⟨hI41, hK42⟩
      · try simp only [Int32.lt_iff_toInt_lt, Int32.le_iff_toInt_le, ← Int32.toInt_inj, Int32.toInt_toInt64, ti_m14, ti_m13, ti_m12, ti_m11, ti_m10, ti_m9, ti_m6, ti_m5, ti_m4, ti_m3, ti_m2, ti_m1, ti_0, ti_1, ti_2, ti_3, ti_4, ti_5, ti_6, ti_7, ti_8, ti_9, ti_10, ti_11, ti_12, ti_19, ti_20, ti_21, ti_44, ti_45, ti_48, ti_57, ti_59, ti_60, ti_98, ti_99, ti_100, ti_101, ti_103, ti_108, ti_110, ti_114, ti_127] at c28
        refine ⟨_, s_X8_isAnyBeyond (in_rb_2) (a1) hI , ?_⟩
        intro v48 lg43 it44 hq
        obtain ⟨⟨hI45, hK46⟩, ha49⟩ := hq
        have hK47 : Kc (fun j => (2 ≤ j ∧ j < 19) ∨ (486 ≤ j ∧ j < 489)) lg0 it0 lg43 it44 := kc_t hKr hK46 (fun j hj => by first | omega | exact False.elim hj | (dsimp only at hj ⊢; omega))
        refine ⟨fun c43 => ?_, fun c43 => ?_⟩
        · try simp only [Int32.lt_iff_toInt_lt, Int32.le_iff_toInt_le, ← Int32.toInt_inj, Int32.toInt_toInt64, ti_m14, ti_m13, ti_m12, ti_m11, ti_m10, ti_m9, ti_m6, ti_m5, ti_m4, ti_m3, ti_m2, ti_m1, ti_0, ti_1, ti_2, ti_3, ti_4, ti_5, ti_6, ti_7, ti_8, ti_9, ti_10, ti_11, ti_12, ti_19, ti_20, ti_21, ti_44, ti_45, ti_48, ti_57, ti_59, ti_60, ti_98, ti_99, ti_100, ti_101, ti_103, ti_108, ti_110, ti_114, ti_127] at c43
          unfold w_X8_wall_b49
          refine ⟨_, s_X8_toldWall  (a1) hI45 (by first | decide | omega | ((try simp only [Int32.lt_iff_toInt_lt, Int32.le_iff_toInt_le, ← Int32.toInt_inj, Int32.toInt_toInt64, ti_m14, ti_m13, ti_m12, ti_m11, ti_m10, ti_m9, ti_m6, ti_m5, ti_m4, ti_m3, ti_m2, ti_m1, ti_0, ti_1, ti_2, ti_3, ti_4, ti_5, ti_6, ti_7, ti_8, ti_9, ti_10, ti_11, ti_12, ti_19, ti_20, ti_21, ti_44, ti_45, ti_48, ti_57, ti_59, ti_60, ti_98, ti_99, ti_100, ti_101, ti_103, ti_108, ti_110, ti_114, ti_127]); omega)), ?_⟩
          intro v55 lg50 it51 hq
          obtain ⟨hI52, hK53⟩ := hq
          have hK54 : Kc (fun j => (2 ≤ j ∧ j < 19) ∨ (486 ≤ j ∧ j < 489)) lg0 it0 lg50 it51 := kc_t hK47 hK53 (fun j hj => by first | omega | exact False.elim hj | (dsimp only at hj ⊢; omega))
          have hi57 : vp_in a1 2 := vp_of (by first | omega | ((try simp only [Int32.lt_iff_toInt_lt, Int32.le_iff_toInt_le, ← Int32.toInt_inj, Int32.toInt_toInt64, ti_m14, ti_m13, ti_m12, ti_m11, ti_m10, ti_m9, ti_m6, ti_m5, ti_m4, ti_m3, ti_m2, ti_m1, ti_0, ti_1, ti_2, ti_3, ti_4, ti_5, ti_6, ti_7, ti_8, ti_9, ti_10, ti_11, ti_12, ti_19, ti_20, ti_21, ti_44, ti_45, ti_48, ti_57, ti_59, ti_60, ti_98, ti_99, ti_100, ti_101, ti_103, ti_108, ti_110, ti_114, ti_127]); omega) | (split <;> omega)) (by first | omega | ((try simp only [Int32.lt_iff_toInt_lt, Int32.le_iff_toInt_le, ← Int32.toInt_inj, Int32.toInt_toInt64, ti_m14, ti_m13, ti_m12, ti_m11, ti_m10, ti_m9, ti_m6, ti_m5, ti_m4, ti_m3, ti_m2, ti_m1, ti_0, ti_1, ti_2, ti_3, ti_4, ti_5, ti_6, ti_7, ti_8, ti_9, ti_10, ti_11, ti_12, ti_19, ti_20, ti_21, ti_44, ti_45, ti_48, ti_57, ti_59, ti_60, ti_98, ti_99, ti_100, ti_101, ti_103, ti_108, ti_110, ti_114, ti_127]); omega) | (split <;> omega))
          refine ⟨hi57, ?_⟩
          have hz58 := vlt hi57
          intro it59 em60
          have hI61 : I8 lg50 it59 := by rw [em60]; exact i8_u hI52 (ok8_a (oq_18) (by decide))
          have hK62 : Kc (fun j => (2 ≤ j ∧ j < 19) ∨ (486 ≤ j ∧ j < 489)) lg0 it0 lg50 it59 := by rw [em60]; exact kc_u (by first | omega | (dsimp only; omega)) hK54
          subst hp
          exact ⟨hI61, hK62⟩
        · try simp only [Int32.lt_iff_toInt_lt, Int32.le_iff_toInt_le, ← Int32.toInt_inj, Int32.toInt_toInt64, ti_m14, ti_m13, ti_m12, ti_m11, ti_m10, ti_m9, ti_m6, ti_m5, ti_m4, ti_m3, ti_m2, ti_m1, ti_0, ti_1, ti_2, ti_3, ti_4, ti_5, ti_6, ti_7, ti_8, ti_9, ti_10, ti_11, ti_12, ti_19, ti_20, ti_21, ti_44, ti_45, ti_48, ti_57, ti_59, ti_60, ti_98, ti_99, ti_100, ti_101, ti_103, ti_108, ti_110, ti_114, ti_127] at c43
          subst hp
          exact ⟨hI45, hK47⟩
    · try simp only [Int32.lt_iff_toInt_lt, Int32.le_iff_toInt_le, ← Int32.toInt_inj, Int32.toInt_toInt64, ti_m14, ti_m13, ti_m12, ti_m11, ti_m10, ti_m9, ti_m6, ti_m5, ti_m4, ti_m3, ti_m2, ti_m1, ti_0, ti_1, ti_2, ti_3, ti_4, ti_5, ti_6, ti_7, ti_8, ti_9, ti_10, ti_11, ti_12, ti_19, ti_20, ti_21, ti_44, ti_45, ti_48, ti_57, ti_59, ti_60, ti_98, ti_99, ti_100, ti_101, ti_103, ti_108, ti_110, ti_114, ti_127] at c13
      refine ⟨fun c20 => ?_, fun c20 => ?_⟩
      · try simp only [Int32.lt_iff_toInt_lt, Int32.le_iff_toInt_le, ← Int32.toInt_inj, Int32.toInt_toInt64, ti_m14, ti_m13, ti_m12, ti_m11, ti_m10, ti_m9, ti_m6, ti_m5, ti_m4, ti_m3, ti_m2, ti_m1, ti_0, ti_1, ti_2, ti_3, ti_4, ti_5, ti_6, ti_7, ti_8, ti_9, ti_10, ti_11, ti_12, ti_19, ti_20, ti_21, ti_44, ti_45, ti_48, ti_57, ti_59, ti_60, ti_98, ti_99, ti_100, ti_101, ti_103, ti_108, ti_110, ti_114, ti_127] at c20
        unfold w_X8_wall_b26
        refine ⟨fun c28 => ?_, fun c28 => ?_⟩
        · try simp only [Int32.lt_iff_toInt_lt, Int32.le_iff_toInt_le, ← Int32.toInt_inj, Int32.toInt_toInt64, ti_m14, ti_m13, ti_m12, ti_m11, ti_m10, ti_m9, ti_m6, ti_m5, ti_m4, ti_m3, ti_m2, ti_m1, ti_0, ti_1, ti_2, ti_3, ti_4, ti_5, ti_6, ti_7, ti_8, ti_9, ti_10, ti_11, ti_12, ti_19, ti_20, ti_21, ti_44, ti_45, ti_48, ti_57, ti_59, ti_60, ti_98, ti_99, ti_100, ti_101, ti_103, ti_108, ti_110, ti_114, ti_127] at c28
          unfold w_X8_wall_b49
          refine ⟨_, s_X8_toldWall  (a1) hI (by first | decide | omega | ((try simp only [Int32.lt_iff_toInt_lt, Int32.le_iff_toInt_le, ← Int32.toInt_inj, Int32.toInt_toInt64, ti_m14, ti_m13, ti_m12, ti_m11, ti_m10, ti_m9, ti_m6, ti_m5, ti_m4, ti_m3, ti_m2, ti_m1, ti_0, ti_1, ti_2, ti_3, ti_4, ti_5, ti_6, ti_7, ti_8, ti_9, ti_10, ti_11, ti_12, ti_19, ti_20, ti_21, ti_44, ti_45, ti_48, ti_57, ti_59, ti_60, ti_98, ti_99, ti_100, ti_101, ti_103, ti_108, ti_110, ti_114, ti_127]); omega)), ?_⟩
          intro v68 lg63 it64 hq
          obtain ⟨hI65, hK66⟩ := hq
          have hK67 : Kc (fun j => (2 ≤ j ∧ j < 19) ∨ (486 ≤ j ∧ j < 489)) lg0 it0 lg63 it64 := kc_t hKr hK66 (fun j hj => by first | omega | exact False.elim hj | (dsimp only at hj ⊢; omega))
          have hi70 : vp_in a1 2 := vp_of (by first | omega | ((try simp only [Int32.lt_iff_toInt_lt, Int32.le_iff_toInt_le, ← Int32.toInt_inj, Int32.toInt_toInt64, ti_m14, ti_m13, ti_m12, ti_m11, ti_m10, ti_m9, ti_m6, ti_m5, ti_m4, ti_m3, ti_m2, ti_m1, ti_0, ti_1, ti_2, ti_3, ti_4, ti_5, ti_6, ti_7, ti_8, ti_9, ti_10, ti_11, ti_12, ti_19, ti_20, ti_21, ti_44, ti_45, ti_48, ti_57, ti_59, ti_60, ti_98, ti_99, ti_100, ti_101, ti_103, ti_108, ti_110, ti_114, ti_127]); omega) | (split <;> omega)) (by first | omega | ((try simp only [Int32.lt_iff_toInt_lt, Int32.le_iff_toInt_le, ← Int32.toInt_inj, Int32.toInt_toInt64, ti_m14, ti_m13, ti_m12, ti_m11, ti_m10, ti_m9, ti_m6, ti_m5, ti_m4, ti_m3, ti_m2, ti_m1, ti_0, ti_1, ti_2, ti_3, ti_4, ti_5, ti_6, ti_7, ti_8, ti_9, ti_10, ti_11, ti_12, ti_19, ti_20, ti_21, ti_44, ti_45, ti_48, ti_57, ti_59, ti_60, ti_98, ti_99, ti_100, ti_101, ti_103, ti_108, ti_110, ti_114, ti_127]); omega) | (split <;> omega))
          refine ⟨hi70, ?_⟩
          have hz71 := vlt hi70
          intro it72 em73
          have hI74 : I8 lg63 it72 := by rw [em73]; exact i8_u hI65 (ok8_a (oq_18) (by decide))
          have hK75 : Kc (fun j => (2 ≤ j ∧ j < 19) ∨ (486 ≤ j ∧ j < 489)) lg0 it0 lg63 it72 := by rw [em73]; exact kc_u (by first | omega | (dsimp only; omega)) hK67
          subst hp
          exact ⟨hI74, hK75⟩
        · try simp only [Int32.lt_iff_toInt_lt, Int32.le_iff_toInt_le, ← Int32.toInt_inj, Int32.toInt_toInt64, ti_m14, ti_m13, ti_m12, ti_m11, ti_m10, ti_m9, ti_m6, ti_m5, ti_m4, ti_m3, ti_m2, ti_m1, ti_0, ti_1, ti_2, ti_3, ti_4, ti_5, ti_6, ti_7, ti_8, ti_9, ti_10, ti_11, ti_12, ti_19, ti_20, ti_21, ti_44, ti_45, ti_48, ti_57, ti_59, ti_60, ti_98, ti_99, ti_100, ti_101, ti_103, ti_108, ti_110, ti_114, ti_127] at c28
          refine ⟨_, s_X8_isAnyBeyond (in_rb_2) (a1) hI , ?_⟩
          intro v81 lg76 it77 hq
          obtain ⟨⟨hI78, hK79⟩, ha82⟩ := hq
          have hK80 : Kc (fun j => (2 ≤ j ∧ j < 19) ∨ (486 ≤ j ∧ j < 489)) lg0 it0 lg76 it77 := kc_t hKr hK79 (fun j hj => by first | omega | exact False.elim hj | (dsimp only at hj ⊢; omega))
          refine ⟨fun c43 => ?_, fun c43 => ?_⟩
          · try simp only [Int32.lt_iff_toInt_lt, Int32.le_iff_toInt_le, ← Int32.toInt_inj, Int32.toInt_toInt64, ti_m14, ti_m13, ti_m12, ti_m11, ti_m10, ti_m9, ti_m6, ti_m5, ti_m4, ti_m3, ti_m2, ti_m1, ti_0, ti_1, ti_2, ti_3, ti_4, ti_5, ti_6, ti_7, ti_8, ti_9, ti_10, ti_11, ti_12, ti_19, ti_20, ti_21, ti_44, ti_45, ti_48, ti_57, ti_59, ti_60, ti_98, ti_99, ti_100, ti_101, ti_103, ti_108, ti_110, ti_114, ti_127] at c43
            unfold w_X8_wall_b49
            refine ⟨_, s_X8_toldWall  (a1) hI78 (by first | decide | omega | ((try simp only [Int32.lt_iff_toInt_lt, Int32.le_iff_toInt_le, ← Int32.toInt_inj, Int32.toInt_toInt64, ti_m14, ti_m13, ti_m12, ti_m11, ti_m10, ti_m9, ti_m6, ti_m5, ti_m4, ti_m3, ti_m2, ti_m1, ti_0, ti_1, ti_2, ti_3, ti_4, ti_5, ti_6, ti_7, ti_8, ti_9, ti_10, ti_11, ti_12, ti_19, ti_20, ti_21, ti_44, ti_45, ti_48, ti_57, ti_59, ti_60, ti_98, ti_99, ti_100, ti_101, ti_103, ti_108, ti_110, ti_114, ti_127]); omega)), ?_⟩
            intro v88 lg83 it84 hq
            obtain ⟨hI85, hK86⟩ := hq
            have hK87 : Kc (fun j => (2 ≤ j ∧ j < 19) ∨ (486 ≤ j ∧ j < 489)) lg0 it0 lg83 it84 := kc_t hK80 hK86 (fun j hj => by first | omega | exact False.elim hj | (dsimp only at hj ⊢; omega))
            have hi90 : vp_in a1 2 := vp_of (by first | omega | ((try simp only [Int32.lt_iff_toInt_lt, Int32.le_iff_toInt_le, ← Int32.toInt_inj, Int32.toInt_toInt64, ti_m14, ti_m13, ti_m12, ti_m11, ti_m10, ti_m9, ti_m6, ti_m5, ti_m4, ti_m3, ti_m2, ti_m1, ti_0, ti_1, ti_2, ti_3, ti_4, ti_5, ti_6, ti_7, ti_8, ti_9, ti_10, ti_11, ti_12, ti_19, ti_20, ti_21, ti_44, ti_45, ti_48, ti_57, ti_59, ti_60, ti_98, ti_99, ti_100, ti_101, ti_103, ti_108, ti_110, ti_114, ti_127]); omega) | (split <;> omega)) (by first | omega | ((try simp only [Int32.lt_iff_toInt_lt, Int32.le_iff_toInt_le, ← Int32.toInt_inj, Int32.toInt_toInt64, ti_m14, ti_m13, ti_m12, ti_m11, ti_m10, ti_m9, ti_m6, ti_m5, ti_m4, ti_m3, ti_m2, ti_m1, ti_0, ti_1, ti_2, ti_3, ti_4, ti_5, ti_6, ti_7, ti_8, ti_9, ti_10, ti_11, ti_12, ti_19, ti_20, ti_21, ti_44, ti_45, ti_48, ti_57, ti_59, ti_60, ti_98, ti_99, ti_100, ti_101, ti_103, ti_108, ti_110, ti_114, ti_127]); omega) | (split <;> omega))
            refine ⟨hi90, ?_⟩
            have hz91 := vlt hi90
            intro it92 em93
            have hI94 : I8 lg83 it92 := by rw [em93]; exact i8_u hI85 (ok8_a (oq_18) (by decide))
            have hK95 : Kc (fun j => (2 ≤ j ∧ j < 19) ∨ (486 ≤ j ∧ j < 489)) lg0 it0 lg83 it92 := by rw [em93]; exact kc_u (by first | omega | (dsimp only; omega)) hK87
            subst hp
            exact ⟨hI94, hK95⟩
          · try simp only [Int32.lt_iff_toInt_lt, Int32.le_iff_toInt_le, ← Int32.toInt_inj, Int32.toInt_toInt64, ti_m14, ti_m13, ti_m12, ti_m11, ti_m10, ti_m9, ti_m6, ti_m5, ti_m4, ti_m3, ti_m2, ti_m1, ti_0, ti_1, ti_2, ti_3, ti_4, ti_5, ti_6, ti_7, ti_8, ti_9, ti_10, ti_11, ti_12, ti_19, ti_20, ti_21, ti_44, ti_45, ti_48, ti_57, ti_59, ti_60, ti_98, ti_99, ti_100, ti_101, ti_103, ti_108, ti_110, ti_114, ti_127] at c43
            subst hp
            exact ⟨hI78, hK80⟩
      · try simp only [Int32.lt_iff_toInt_lt, Int32.le_iff_toInt_le, ← Int32.toInt_inj, Int32.toInt_toInt64, ti_m14, ti_m13, ti_m12, ti_m11, ti_m10, ti_m9, ti_m6, ti_m5, ti_m4, ti_m3, ti_m2, ti_m1, ti_0, ti_1, ti_2, ti_3, ti_4, ti_5, ti_6, ti_7, ti_8, ti_9, ti_10, ti_11, ti_12, ti_19, ti_20, ti_21, ti_44, ti_45, ti_48, ti_57, ti_59, ti_60, ti_98, ti_99, ti_100, ti_101, ti_103, ti_108, ti_110, ti_114, ti_127] at c20
        subst hp
        exact ⟨hI, hKr⟩
  · try simp only [Int32.lt_iff_toInt_lt, Int32.le_iff_toInt_le, ← Int32.toInt_inj, Int32.toInt_toInt64, ti_m14, ti_m13, ti_m12, ti_m11, ti_m10, ti_m9, ti_m6, ti_m5, ti_m4, ti_m3, ti_m2, ti_m1, ti_0, ti_1, ti_2, ti_3, ti_4, ti_5, ti_6, ti_7, ti_8, ti_9, ti_10, ti_11, ti_12, ti_19, ti_20, ti_21, ti_44, ti_45, ti_48, ti_57, ti_59, ti_60, ti_98, ti_99, ti_100, ti_101, ti_103, ti_108, ti_110, ti_114, ti_127] at c1
    refine ⟨fun c6 => ?_, fun c6 => ?_⟩
    · try simp only [Int32.lt_iff_toInt_lt, Int32.le_iff_toInt_le, ← Int32.toInt_inj, Int32.toInt_toInt64, ti_m14, ti_m13, ti_m12, ti_m11, ti_m10, ti_m9, ti_m6, ti_m5, ti_m4, ti_m3, ti_m2, ti_m1, ti_0, ti_1, ti_2, ti_3, ti_4, ti_5, ti_6, ti_7, ti_8, ti_9, ti_10, ti_11, ti_12, ti_19, ti_20, ti_21, ti_44, ti_45, ti_48, ti_57, ti_59, ti_60, ti_98, ti_99, ti_100, ti_101, ti_103, ti_108, ti_110, ti_114, ti_127] at c6
      unfold w_X8_wall_b11
      refine ⟨fun c13 => ?_, fun c13 => ?_⟩
      · try simp only [Int32.lt_iff_toInt_lt, Int32.le_iff_toInt_le, ← Int32.toInt_inj, Int32.toInt_toInt64, ti_m14, ti_m13, ti_m12, ti_m11, ti_m10, ti_m9, ti_m6, ti_m5, ti_m4, ti_m3, ti_m2, ti_m1, ti_0, ti_1, ti_2, ti_3, ti_4, ti_5, ti_6, ti_7, ti_8, ti_9, ti_10, ti_11, ti_12, ti_19, ti_20, ti_21, ti_44, ti_45, ti_48, ti_57, ti_59, ti_60, ti_98, ti_99, ti_100, ti_101, ti_103, ti_108, ti_110, ti_114, ti_127] at c13
        unfold w_X8_wall_b26
        refine ⟨fun c28 => ?_, fun c28 => ?_⟩
        · try simp only [Int32.lt_iff_toInt_lt, Int32.le_iff_toInt_le, ← Int32.toInt_inj, Int32.toInt_toInt64, ti_m14, ti_m13, ti_m12, ti_m11, ti_m10, ti_m9, ti_m6, ti_m5, ti_m4, ti_m3, ti_m2, ti_m1, ti_0, ti_1, ti_2, ti_3, ti_4, ti_5, ti_6, ti_7, ti_8, ti_9, ti_10, ti_11, ti_12, ti_19, ti_20, ti_21, ti_44, ti_45, ti_48, ti_57, ti_59, ti_60, ti_98, ti_99, ti_100, ti_101, ti_103, ti_108, ti_110, ti_114, ti_127] at c28
          unfold w_X8_wall_b49
          refine ⟨_, s_X8_toldWall  (a1) hI (by first | decide | omega | ((try simp only [Int32.lt_iff_toInt_lt, Int32.le_iff_toInt_le, ← Int32.toInt_inj, Int32.toInt_toInt64, ti_m14, ti_m13, ti_m12, ti_m11, ti_m10, ti_m9, ti_m6, ti_m5, ti_m4, ti_m3, ti_m2, ti_m1, ti_0, ti_1, ti_2, ti_3, ti_4, ti_5, ti_6, ti_7, ti_8, ti_9, ti_10, ti_11, ti_12, ti_19, ti_20, ti_21, ti_44, ti_45, ti_48, ti_57, ti_59, ti_60, ti_98, ti_99, ti_100, ti_101, ti_103, ti_108, ti_110, ti_114, ti_127]); omega)), ?_⟩
          intro v101 lg96 it97 hq
          obtain ⟨hI98, hK99⟩ := hq
          have hK100 : Kc (fun j => (2 ≤ j ∧ j < 19) ∨ (486 ≤ j ∧ j < 489)) lg0 it0 lg96 it97 := kc_t hKr hK99 (fun j hj => by first | omega | exact False.elim hj | (dsimp only at hj ⊢; omega))
          have hi103 : vp_in a1 2 := vp_of (by first | omega | ((try simp only [Int32.lt_iff_toInt_lt, Int32.le_iff_toInt_le, ← Int32.toInt_inj, Int32.toInt_toInt64, ti_m14, ti_m13, ti_m12, ti_m11, ti_m10, ti_m9, ti_m6, ti_m5, ti_m4, ti_m3, ti_m2, ti_m1, ti_0, ti_1, ti_2, ti_3, ti_4, ti_5, ti_6, ti_7, ti_8, ti_9, ti_10, ti_11, ti_12, ti_19, ti_20, ti_21, ti_44, ti_45, ti_48, ti_57, ti_59, ti_60, ti_98, ti_99, ti_100, ti_101, ti_103, ti_108, ti_110, ti_114, ti_127]); omega) | (split <;> omega)) (by first | omega | ((try simp only [Int32.lt_iff_toInt_lt, Int32.le_iff_toInt_le, ← Int32.toInt_inj, Int32.toInt_toInt64, ti_m14, ti_m13, ti_m12, ti_m11, ti_m10, ti_m9, ti_m6, ti_m5, ti_m4, ti_m3, ti_m2, ti_m1, ti_0, ti_1, ti_2, ti_3, ti_4, ti_5, ti_6, ti_7, ti_8, ti_9, ti_10, ti_11, ti_12, ti_19, ti_20, ti_21, ti_44, ti_45, ti_48, ti_57, ti_59, ti_60, ti_98, ti_99, ti_100, ti_101, ti_103, ti_108, ti_110, ti_114, ti_127]); omega) | (split <;> omega))
          refine ⟨hi103, ?_⟩
          have hz104 := vlt hi103
          intro it105 em106
          have hI107 : I8 lg96 it105 := by rw [em106]; exact i8_u hI98 (ok8_a (oq_18) (by decide))
          have hK108 : Kc (fun j => (2 ≤ j ∧ j < 19) ∨ (486 ≤ j ∧ j < 489)) lg0 it0 lg96 it105 := by rw [em106]; exact kc_u (by first | omega | (dsimp only; omega)) hK100
          subst hp
          exact ⟨hI107, hK108⟩
        · try simp only [Int32.lt_iff_toInt_lt, Int32.le_iff_toInt_le, ← Int32.toInt_inj, Int32.toInt_toInt64, ti_m14, ti_m13, ti_m12, ti_m11, ti_m10, ti_m9, ti_m6, ti_m5, ti_m4, ti_m3, ti_m2, ti_m1, ti_0, ti_1, ti_2, ti_3, ti_4, ti_5, ti_6, ti_7, ti_8, ti_9, ti_10, ti_11, ti_12, ti_19, ti_20, ti_21, ti_44, ti_45, ti_48, ti_57, ti_59, ti_60, ti_98, ti_99, ti_100, ti_101, ti_103, ti_108, ti_110, ti_114, ti_127] at c28
          refine ⟨_, s_X8_isAnyBeyond (in_rb_2) (a1) hI , ?_⟩
          intro v114 lg109 it110 hq
          obtain ⟨⟨hI111, hK112⟩, ha115⟩ := hq
          have hK113 : Kc (fun j => (2 ≤ j ∧ j < 19) ∨ (486 ≤ j ∧ j < 489)) lg0 it0 lg109 it110 := kc_t hKr hK112 (fun j hj => by first | omega | exact False.elim hj | (dsimp only at hj ⊢; omega))
          refine ⟨fun c43 => ?_, fun c43 => ?_⟩
          · try simp only [Int32.lt_iff_toInt_lt, Int32.le_iff_toInt_le, ← Int32.toInt_inj, Int32.toInt_toInt64, ti_m14, ti_m13, ti_m12, ti_m11, ti_m10, ti_m9, ti_m6, ti_m5, ti_m4, ti_m3, ti_m2, ti_m1, ti_0, ti_1, ti_2, ti_3, ti_4, ti_5, ti_6, ti_7, ti_8, ti_9, ti_10, ti_11, ti_12, ti_19, ti_20, ti_21, ti_44, ti_45, ti_48, ti_57, ti_59, ti_60, ti_98, ti_99, ti_100, ti_101, ti_103, ti_108, ti_110, ti_114, ti_127] at c43
            unfold w_X8_wall_b49
            refine ⟨_, s_X8_toldWall  (a1) hI111 (by first | decide | omega | ((try simp only [Int32.lt_iff_toInt_lt, Int32.le_iff_toInt_le, ← Int32.toInt_inj, Int32.toInt_toInt64, ti_m14, ti_m13, ti_m12, ti_m11, ti_m10, ti_m9, ti_m6, ti_m5, ti_m4, ti_m3, ti_m2, ti_m1, ti_0, ti_1, ti_2, ti_3, ti_4, ti_5, ti_6, ti_7, ti_8, ti_9, ti_10, ti_11, ti_12, ti_19, ti_20, ti_21, ti_44, ti_45, ti_48, ti_57, ti_59, ti_60, ti_98, ti_99, ti_100, ti_101, ti_103, ti_108, ti_110, ti_114, ti_127]); omega)), ?_⟩
            intro v121 lg116 it117 hq
            obtain ⟨hI118, hK119⟩ := hq
            have hK120 : Kc (fun j => (2 ≤ j ∧ j < 19) ∨ (486 ≤ j ∧ j < 489)) lg0 it0 lg116 it117 := kc_t hK113 hK119 (fun j hj => by first | omega | exact False.elim hj | (dsimp only at hj ⊢; omega))
            have hi123 : vp_in a1 2 := vp_of (by first | omega | ((try simp only [Int32.lt_iff_toInt_lt, Int32.le_iff_toInt_le, ← Int32.toInt_inj, Int32.toInt_toInt64, ti_m14, ti_m13, ti_m12, ti_m11, ti_m10, ti_m9, ti_m6, ti_m5, ti_m4, ti_m3, ti_m2, ti_m1, ti_0, ti_1, ti_2, ti_3, ti_4, ti_5, ti_6, ti_7, ti_8, ti_9, ti_10, ti_11, ti_12, ti_19, ti_20, ti_21, ti_44, ti_45, ti_48, ti_57, ti_59, ti_60, ti_98, ti_99, ti_100, ti_101, ti_103, ti_108, ti_110, ti_114, ti_127]); omega) | (split <;> omega)) (by first | omega | ((try simp only [Int32.lt_iff_toInt_lt, Int32.le_iff_toInt_le, ← Int32.toInt_inj, Int32.toInt_toInt64, ti_m14, ti_m13, ti_m12, ti_m11, ti_m10, ti_m9, ti_m6, ti_m5, ti_m4, ti_m3, ti_m2, ti_m1, ti_0, ti_1, ti_2, ti_3, ti_4, ti_5, ti_6, ti_7, ti_8, ti_9, ti_10, ti_11, ti_12, ti_19, ti_20, ti_21, ti_44, ti_45, ti_48, ti_57, ti_59, ti_60, ti_98, ti_99, ti_100, ti_101, ti_103, ti_108, ti_110, ti_114, ti_127]); omega) | (split <;> omega))
            refine ⟨hi123, ?_⟩
            have hz124 := vlt hi123
            intro it125 em126
            have hI127 : I8 lg116 it125 := by rw [em126]; exact i8_u hI118 (ok8_a (oq_18) (by decide))
            have hK128 : Kc (fun j => (2 ≤ j ∧ j < 19) ∨ (486 ≤ j ∧ j < 489)) lg0 it0 lg116 it125 := by rw [em126]; exact kc_u (by first | omega | (dsimp only; omega)) hK120
            subst hp
            exact ⟨hI127, hK128⟩
          · try simp only [Int32.lt_iff_toInt_lt, Int32.le_iff_toInt_le, ← Int32.toInt_inj, Int32.toInt_toInt64, ti_m14, ti_m13, ti_m12, ti_m11, ti_m10, ti_m9, ti_m6, ti_m5, ti_m4, ti_m3, ti_m2, ti_m1, ti_0, ti_1, ti_2, ti_3, ti_4, ti_5, ti_6, ti_7, ti_8, ti_9, ti_10, ti_11, ti_12, ti_19, ti_20, ti_21, ti_44, ti_45, ti_48, ti_57, ti_59, ti_60, ti_98, ti_99, ti_100, ti_101, ti_103, ti_108, ti_110, ti_114, ti_127] at c43
            subst hp
            exact ⟨hI111, hK113⟩
      · try simp only [Int32.lt_iff_toInt_lt, Int32.le_iff_toInt_le, ← Int32.toInt_inj, Int32.toInt_toInt64, ti_m14, ti_m13, ti_m12, ti_m11, ti_m10, ti_m9, ti_m6, ti_m5, ti_m4, ti_m3, ti_m2, ti_m1, ti_0, ti_1, ti_2, ti_3, ti_4, ti_5, ti_6, ti_7, ti_8, ti_9, ti_10, ti_11, ti_12, ti_19, ti_20, ti_21, ti_44, ti_45, ti_48, ti_57, ti_59, ti_60, ti_98, ti_99, ti_100, ti_101, ti_103, ti_108, ti_110, ti_114, ti_127] at c13
        refine ⟨fun c20 => ?_, fun c20 => ?_⟩
        · try simp only [Int32.lt_iff_toInt_lt, Int32.le_iff_toInt_le, ← Int32.toInt_inj, Int32.toInt_toInt64, ti_m14, ti_m13, ti_m12, ti_m11, ti_m10, ti_m9, ti_m6, ti_m5, ti_m4, ti_m3, ti_m2, ti_m1, ti_0, ti_1, ti_2, ti_3, ti_4, ti_5, ti_6, ti_7, ti_8, ti_9, ti_10, ti_11, ti_12, ti_19, ti_20, ti_21, ti_44, ti_45, ti_48, ti_57, ti_59, ti_60, ti_98, ti_99, ti_100, ti_101, ti_103, ti_108, ti_110, ti_114, ti_127] at c20
          unfold w_X8_wall_b26
          refine ⟨fun c28 => ?_, fun c28 => ?_⟩
          · try simp only [Int32.lt_iff_toInt_lt, Int32.le_iff_toInt_le, ← Int32.toInt_inj, Int32.toInt_toInt64, ti_m14, ti_m13, ti_m12, ti_m11, ti_m10, ti_m9, ti_m6, ti_m5, ti_m4, ti_m3, ti_m2, ti_m1, ti_0, ti_1, ti_2, ti_3, ti_4, ti_5, ti_6, ti_7, ti_8, ti_9, ti_10, ti_11, ti_12, ti_19, ti_20, ti_21, ti_44, ti_45, ti_48, ti_57, ti_59, ti_60, ti_98, ti_99, ti_100, ti_101, ti_103, ti_108, ti_110, ti_114, ti_127] at c28
            unfold w_X8_wall_b49
            refine ⟨_, s_X8_toldWall  (a1) hI (by first | decide | omega | ((try simp only [Int32.lt_iff_toInt_lt, Int32.le_iff_toInt_le, ← Int32.toInt_inj, Int32.toInt_toInt64, ti_m14, ti_m13, ti_m12, ti_m11, ti_m10, ti_m9, ti_m6, ti_m5, ti_m4, ti_m3, ti_m2, ti_m1, ti_0, ti_1, ti_2, ti_3, ti_4, ti_5, ti_6, ti_7, ti_8, ti_9, ti_10, ti_11, ti_12, ti_19, ti_20, ti_21, ti_44, ti_45, ti_48, ti_57, ti_59, ti_60, ti_98, ti_99, ti_100, ti_101, ti_103, ti_108, ti_110, ti_114, ti_127]); omega)), ?_⟩
            intro v134 lg129 it130 hq
            obtain ⟨hI131, hK132⟩ := hq
            have hK133 : Kc (fun j => (2 ≤ j ∧ j < 19) ∨ (486 ≤ j ∧ j < 489)) lg0 it0 lg129 it130 := kc_t hKr hK132 (fun j hj => by first | omega | exact False.elim hj | (dsimp only at hj ⊢; omega))
            have hi136 : vp_in a1 2 := vp_of (by first | omega | ((try simp only [Int32.lt_iff_toInt_lt, Int32.le_iff_toInt_le, ← Int32.toInt_inj, Int32.toInt_toInt64, ti_m14, ti_m13, ti_m12, ti_m11, ti_m10, ti_m9, ti_m6, ti_m5, ti_m4, ti_m3, ti_m2, ti_m1, ti_0, ti_1, ti_2, ti_3, ti_4, ti_5, ti_6, ti_7, ti_8, ti_9, ti_10, ti_11, ti_12, ti_19, ti_20, ti_21, ti_44, ti_45, ti_48, ti_57, ti_59, ti_60, ti_98, ti_99, ti_100, ti_101, ti_103, ti_108, ti_110, ti_114, ti_127]); omega) | (split <;> omega)) (by first | omega | ((try simp only [Int32.lt_iff_toInt_lt, Int32.le_iff_toInt_le, ← Int32.toInt_inj, Int32.toInt_toInt64, ti_m14, ti_m13, ti_m12, ti_m11, ti_m10, ti_m9, ti_m6, ti_m5, ti_m4, ti_m3, ti_m2, ti_m1, ti_0, ti_1, ti_2, ti_3, ti_4, ti_5, ti_6, ti_7, ti_8, ti_9, ti_10, ti_11, ti_12, ti_19, ti_20, ti_21, ti_44, ti_45, ti_48, ti_57, ti_59, ti_60, ti_98, ti_99, ti_100, ti_101, ti_103, ti_108, ti_110, ti_114, ti_127]); omega) | (split <;> omega))
            refine ⟨hi136, ?_⟩
            have hz137 := vlt hi136
            intro it138 em139
            have hI140 : I8 lg129 it138 := by rw [em139]; exact i8_u hI131 (ok8_a (oq_18) (by decide))
            have hK141 : Kc (fun j => (2 ≤ j ∧ j < 19) ∨ (486 ≤ j ∧ j < 489)) lg0 it0 lg129 it138 := by rw [em139]; exact kc_u (by first | omega | (dsimp only; omega)) hK133
            subst hp
            exact ⟨hI140, hK141⟩
          · try simp only [Int32.lt_iff_toInt_lt, Int32.le_iff_toInt_le, ← Int32.toInt_inj, Int32.toInt_toInt64, ti_m14, ti_m13, ti_m12, ti_m11, ti_m10, ti_m9, ti_m6, ti_m5, ti_m4, ti_m3, ti_m2, ti_m1, ti_0, ti_1, ti_2, ti_3, ti_4, ti_5, ti_6, ti_7, ti_8, ti_9, ti_10, ti_11, ti_12, ti_19, ti_20, ti_21, ti_44, ti_45, ti_48, ti_57, ti_59, ti_60, ti_98, ti_99, ti_100, ti_101, ti_103, ti_108, ti_110, ti_114, ti_127] at c28
            refine ⟨_, s_X8_isAnyBeyond (in_rb_2) (a1) hI , ?_⟩
            intro v147 lg142 it143 hq
            obtain ⟨⟨hI144, hK145⟩, ha148⟩ := hq
            have hK146 : Kc (fun j => (2 ≤ j ∧ j < 19) ∨ (486 ≤ j ∧ j < 489)) lg0 it0 lg142 it143 := kc_t hKr hK145 (fun j hj => by first | omega | exact False.elim hj | (dsimp only at hj ⊢; omega))
            refine ⟨fun c43 => ?_, fun c43 => ?_⟩
            · try simp only [Int32.lt_iff_toInt_lt, Int32.le_iff_toInt_le, ← Int32.toInt_inj, Int32.toInt_toInt64, ti_m14, ti_m13, ti_m12, ti_m11, ti_m10, ti_m9, ti_m6, ti_m5, ti_m4, ti_m3, ti_m2, ti_m1, ti_0, ti_1, ti_2, ti_3, ti_4, ti_5, ti_6, ti_7, ti_8, ti_9, ti_10, ti_11, ti_12, ti_19, ti_20, ti_21, ti_44, ti_45, ti_48, ti_57, ti_59, ti_60, ti_98, ti_99, ti_100, ti_101, ti_103, ti_108, ti_110, ti_114, ti_127] at c43
              unfold w_X8_wall_b49
              refine ⟨_, s_X8_toldWall  (a1) hI144 (by first | decide | omega | ((try simp only [Int32.lt_iff_toInt_lt, Int32.le_iff_toInt_le, ← Int32.toInt_inj, Int32.toInt_toInt64, ti_m14, ti_m13, ti_m12, ti_m11, ti_m10, ti_m9, ti_m6, ti_m5, ti_m4, ti_m3, ti_m2, ti_m1, ti_0, ti_1, ti_2, ti_3, ti_4, ti_5, ti_6, ti_7, ti_8, ti_9, ti_10, ti_11, ti_12, ti_19, ti_20, ti_21, ti_44, ti_45, ti_48, ti_57, ti_59, ti_60, ti_98, ti_99, ti_100, ti_101, ti_103, ti_108, ti_110, ti_114, ti_127]); omega)), ?_⟩
              intro v154 lg149 it150 hq
              obtain ⟨hI151, hK152⟩ := hq
              have hK153 : Kc (fun j => (2 ≤ j ∧ j < 19) ∨ (486 ≤ j ∧ j < 489)) lg0 it0 lg149 it150 := kc_t hK146 hK152 (fun j hj => by first | omega | exact False.elim hj | (dsimp only at hj ⊢; omega))
              have hi156 : vp_in a1 2 := vp_of (by first | omega | ((try simp only [Int32.lt_iff_toInt_lt, Int32.le_iff_toInt_le, ← Int32.toInt_inj, Int32.toInt_toInt64, ti_m14, ti_m13, ti_m12, ti_m11, ti_m10, ti_m9, ti_m6, ti_m5, ti_m4, ti_m3, ti_m2, ti_m1, ti_0, ti_1, ti_2, ti_3, ti_4, ti_5, ti_6, ti_7, ti_8, ti_9, ti_10, ti_11, ti_12, ti_19, ti_20, ti_21, ti_44, ti_45, ti_48, ti_57, ti_59, ti_60, ti_98, ti_99, ti_100, ti_101, ti_103, ti_108, ti_110, ti_114, ti_127]); omega) | (split <;> omega)) (by first | omega | ((try simp only [Int32.lt_iff_toInt_lt, Int32.le_iff_toInt_le, ← Int32.toInt_inj, Int32.toInt_toInt64, ti_m14, ti_m13, ti_m12, ti_m11, ti_m10, ti_m9, ti_m6, ti_m5, ti_m4, ti_m3, ti_m2, ti_m1, ti_0, ti_1, ti_2, ti_3, ti_4, ti_5, ti_6, ti_7, ti_8, ti_9, ti_10, ti_11, ti_12, ti_19, ti_20, ti_21, ti_44, ti_45, ti_48, ti_57, ti_59, ti_60, ti_98, ti_99, ti_100, ti_101, ti_103, ti_108, ti_110, ti_114, ti_127]); omega) | (split <;> omega))
              refine ⟨hi156, ?_⟩
              have hz157 := vlt hi156
              intro it158 em159
              have hI160 : I8 lg149 it158 := by rw [em159]; exact i8_u hI151 (ok8_a (oq_18) (by decide))
              have hK161 : Kc (fun j => (2 ≤ j ∧ j < 19) ∨ (486 ≤ j ∧ j < 489)) lg0 it0 lg149 it158 := by rw [em159]; exact kc_u (by first | omega | (dsimp only; omega)) hK153
              subst hp
              exact ⟨hI160, hK161⟩
            · try simp only [Int32.lt_iff_toInt_lt, Int32.le_iff_toInt_le, ← Int32.toInt_inj, Int32.toInt_toInt64, ti_m14, ti_m13, ti_m12, ti_m11, ti_m10, ti_m9, ti_m6, ti_m5, ti_m4, ti_m3, ti_m2, ti_m1, ti_0, ti_1, ti_2, ti_3, ti_4, ti_5, ti_6, ti_7, ti_8, ti_9, ti_10, ti_11, ti_12, ti_19, ti_20, ti_21, ti_44, ti_45, ti_48, ti_57, ti_59, ti_60, ti_98, ti_99, ti_100, ti_101, ti_103, ti_108, ti_110, ti_114, ti_127] at c43
              subst hp
              exact ⟨hI144, hK146⟩
        · try simp only [Int32.lt_iff_toInt_lt, Int32.le_iff_toInt_le, ← Int32.toInt_inj, Int32.toInt_toInt64, ti_m14, ti_m13, ti_m12, ti_m11, ti_m10, ti_m9, ti_m6, ti_m5, ti_m4, ti_m3, ti_m2, ti_m1, ti_0, ti_1, ti_2, ti_3, ti_4, ti_5, ti_6, ti_7, ti_8, ti_9, ti_10, ti_11, ti_12, ti_19, ti_20, ti_21, ti_44, ti_45, ti_48, ti_57, ti_59, ti_60, ti_98, ti_99, ti_100, ti_101, ti_103, ti_108, ti_110, ti_114, ti_127] at c20
          subst hp
          exact ⟨hI, hKr⟩
    · try simp only [Int32.lt_iff_toInt_lt, Int32.le_iff_toInt_le, ← Int32.toInt_inj, Int32.toInt_toInt64, ti_m14, ti_m13, ti_m12, ti_m11, ti_m10, ti_m9, ti_m6, ti_m5, ti_m4, ti_m3, ti_m2, ti_m1, ti_0, ti_1, ti_2, ti_3, ti_4, ti_5, ti_6, ti_7, ti_8, ti_9, ti_10, ti_11, ti_12, ti_19, ti_20, ti_21, ti_44, ti_45, ti_48, ti_57, ti_59, ti_60, ti_98, ti_99, ti_100, ti_101, ti_103, ti_108, ti_110, ti_114, ti_127] at c6
      subst hp
      exact ⟨hI, hKr⟩
set_option maxRecDepth 100000 in
theorem s_X8_go (a1 : Int32) {lg0 : LGt} {it0 : ITt} (hI : I8 lg0 it0) : w_X8_go a1 (fun (v : Int32) (lg' : LGt) (it' : ITt) => (I8 lg' it' ∧ Kc (fun j => (2 ≤ j ∧ j < 19) ∨ (55 ≤ j ∧ j < 450)) lg0 it0 lg' it'))  lg0 it0 := by
  have hb_a1 := And.intro a1.le_toInt a1.toInt_lt
  have hKr : Kc (fun j => (2 ≤ j ∧ j < 19) ∨ (55 ≤ j ∧ j < 450)) lg0 it0 lg0 it0 := kc_r
  generalize hp : (fun (v : Int32) (lg' : LGt) (it' : ITt) => (I8 lg' it' ∧ Kc (fun j => (2 ≤ j ∧ j < 19) ∨ (55 ≤ j ∧ j < 450)) lg0 it0 lg' it')) = Pz
  unfold w_X8_go
  refine ⟨fun c1 => ?_, fun c1 => ?_⟩
  · try simp only [Int32.lt_iff_toInt_lt, Int32.le_iff_toInt_le, ← Int32.toInt_inj, Int32.toInt_toInt64, ti_m14, ti_m13, ti_m12, ti_m11, ti_m10, ti_m9, ti_m6, ti_m5, ti_m4, ti_m3, ti_m2, ti_m1, ti_0, ti_1, ti_2, ti_3, ti_4, ti_5, ti_6, ti_7, ti_8, ti_9, ti_10, ti_11, ti_12, ti_19, ti_20, ti_21, ti_44, ti_45, ti_48, ti_57, ti_59, ti_60, ti_98, ti_99, ti_100, ti_101, ti_103, ti_108, ti_110, ti_114, ti_127] at c1
    subst hp
    exact ⟨hI, hKr⟩
  · try simp only [Int32.lt_iff_toInt_lt, Int32.le_iff_toInt_le, ← Int32.toInt_inj, Int32.toInt_toInt64, ti_m14, ti_m13, ti_m12, ti_m11, ti_m10, ti_m9, ti_m6, ti_m5, ti_m4, ti_m3, ti_m2, ti_m1, ti_0, ti_1, ti_2, ti_3, ti_4, ti_5, ti_6, ti_7, ti_8, ti_9, ti_10, ti_11, ti_12, ti_19, ti_20, ti_21, ti_44, ti_45, ti_48, ti_57, ti_59, ti_60, ti_98, ti_99, ti_100, ti_101, ti_103, ti_108, ti_110, ti_114, ti_127] at c1
    refine ⟨fun c7 => ?_, fun c7 => ?_⟩
    · try simp only [Int32.lt_iff_toInt_lt, Int32.le_iff_toInt_le, ← Int32.toInt_inj, Int32.toInt_toInt64, ti_m14, ti_m13, ti_m12, ti_m11, ti_m10, ti_m9, ti_m6, ti_m5, ti_m4, ti_m3, ti_m2, ti_m1, ti_0, ti_1, ti_2, ti_3, ti_4, ti_5, ti_6, ti_7, ti_8, ti_9, ti_10, ti_11, ti_12, ti_19, ti_20, ti_21, ti_44, ti_45, ti_48, ti_57, ti_59, ti_60, ti_98, ti_99, ti_100, ti_101, ti_103, ti_108, ti_110, ti_114, ti_127] at c7
      refine ⟨_, s_X0_work (in_rb_2) ((20 : Int32)) hI , ?_⟩
      intro lg21 it22 hq
      obtain ⟨hI23, hK24⟩ := hq
      have hK25 : Kc (fun j => (2 ≤ j ∧ j < 19) ∨ (55 ≤ j ∧ j < 450)) lg0 it0 lg21 it22 := kc_t hKr hK24 (fun j hj => by first | omega | exact False.elim hj | (dsimp only at hj ⊢; omega))
      have f28 : 0 ≤ (it22 55 3).toInt ∧ (it22 55 3).toInt ≤ 20 := i8_0 hI23
      have hi29 : vp_in (if (it22 55 3) < a1 then (it22 55 3) else a1) 21 := vp_of (by first | omega | ((try simp only [Int32.lt_iff_toInt_lt, Int32.le_iff_toInt_le, ← Int32.toInt_inj, Int32.toInt_toInt64, ti_m14, ti_m13, ti_m12, ti_m11, ti_m10, ti_m9, ti_m6, ti_m5, ti_m4, ti_m3, ti_m2, ti_m1, ti_0, ti_1, ti_2, ti_3, ti_4, ti_5, ti_6, ti_7, ti_8, ti_9, ti_10, ti_11, ti_12, ti_19, ti_20, ti_21, ti_44, ti_45, ti_48, ti_57, ti_59, ti_60, ti_98, ti_99, ti_100, ti_101, ti_103, ti_108, ti_110, ti_114, ti_127]); omega) | (split <;> omega)) (by first | omega | ((try simp only [Int32.lt_iff_toInt_lt, Int32.le_iff_toInt_le, ← Int32.toInt_inj, Int32.toInt_toInt64, ti_m14, ti_m13, ti_m12, ti_m11, ti_m10, ti_m9, ti_m6, ti_m5, ti_m4, ti_m3, ti_m2, ti_m1, ti_0, ti_1, ti_2, ti_3, ti_4, ti_5, ti_6, ti_7, ti_8, ti_9, ti_10, ti_11, ti_12, ti_19, ti_20, ti_21, ti_44, ti_45, ti_48, ti_57, ti_59, ti_60, ti_98, ti_99, ti_100, ti_101, ti_103, ti_108, ti_110, ti_114, ti_127]); omega) | (split <;> omega))
      refine ⟨hi29, ?_⟩
      have hz30 := vlt hi29
      refine ⟨_, s_X3_become (in_rb_2) ((rst (vlt (hi29))))  hI23 , ?_⟩
      intro lg31 it32 hq
      obtain ⟨hI33, hK34⟩ := hq
      have hK35 : Kc (fun j => (2 ≤ j ∧ j < 19) ∨ (55 ≤ j ∧ j < 450)) lg0 it0 lg31 it32 := kc_t hK25 hK34 (fun j hj => by first | omega | exact False.elim hj | (dsimp only at hj ⊢; omega))
      try have e38 : (it32 55 3).toInt = (it22 55 3).toInt := congrArg (fun f => Int32.toInt (f 3)) (hK34 55 (by first | omega | (dsimp only; omega))).2
      subst hp
      exact ⟨hI33, hK35⟩
    · try simp only [Int32.lt_iff_toInt_lt, Int32.le_iff_toInt_le, ← Int32.toInt_inj, Int32.toInt_toInt64, ti_m14, ti_m13, ti_m12, ti_m11, ti_m10, ti_m9, ti_m6, ti_m5, ti_m4, ti_m3, ti_m2, ti_m1, ti_0, ti_1, ti_2, ti_3, ti_4, ti_5, ti_6, ti_7, ti_8, ti_9, ti_10, ti_11, ti_12, ti_19, ti_20, ti_21, ti_44, ti_45, ti_48, ti_57, ti_59, ti_60, ti_98, ti_99, ti_100, ti_101, ti_103, ti_108, ti_110, ti_114, ti_127] at c7
      subst hp
      exact ⟨hI, hKr⟩
set_option maxRecDepth 100000 in
theorem s_X8_perform (a1 : Int32) (a2 : Int32) (a3 : Int32) (a4 : Int32) {lg0 : LGt} {it0 : ITt} (hI : I8 lg0 it0) : w_X8_perform a1 a2 a3 a4 (fun (v : Int32) (lg' : LGt) (it' : ITt) => (I8 lg' it' ∧ Kc (fun j => (2 ≤ j ∧ j < 19) ∨ (55 ≤ j ∧ j < 450) ∨ (486 ≤ j ∧ j < 489)) lg0 it0 lg' it'))  lg0 it0 := by
  have hb_a1 := And.intro a1.le_toInt a1.toInt_lt
  have hb_a2 := And.intro a2.le_toInt a2.toInt_lt
  have hb_a3 := And.intro a3.le_toInt a3.toInt_lt
  have hb_a4 := And.intro a4.le_toInt a4.toInt_lt
  have hKr : Kc (fun j => (2 ≤ j ∧ j < 19) ∨ (55 ≤ j ∧ j < 450) ∨ (486 ≤ j ∧ j < 489)) lg0 it0 lg0 it0 := kc_r
  generalize hp : (fun (v : Int32) (lg' : LGt) (it' : ITt) => (I8 lg' it' ∧ Kc (fun j => (2 ≤ j ∧ j < 19) ∨ (55 ≤ j ∧ j < 450) ∨ (486 ≤ j ∧ j < 489)) lg0 it0 lg' it')) = Pz
  unfold w_X8_perform
  refine ⟨fun c1 => ?_, fun c1 => ?_⟩
  · skip
    refine ⟨_, s_X8_bumper  (a2) (a3) (a4) hI , ?_⟩
    intro v49 lg44 it45 hq
    obtain ⟨hI46, hK47⟩ := hq
    have hK48 : Kc (fun j => (2 ≤ j ∧ j < 19) ∨ (55 ≤ j ∧ j < 450) ∨ (486 ≤ j ∧ j < 489)) lg0 it0 lg44 it45 := kc_t hKr hK47 (fun j hj => by first | omega | exact False.elim hj | (dsimp only at hj ⊢; omega))
    subst hp
    exact ⟨hI46, hK48⟩
  refine ⟨fun c1 => ?_, fun c1 => ?_⟩
  · skip
    refine ⟨_, s_X8_spring  (a2) hI , ?_⟩
    intro v56 lg51 it52 hq
    obtain ⟨hI53, hK54⟩ := hq
    have hK55 : Kc (fun j => (2 ≤ j ∧ j < 19) ∨ (55 ≤ j ∧ j < 450) ∨ (486 ≤ j ∧ j < 489)) lg0 it0 lg51 it52 := kc_t hKr hK54 (fun j hj => by first | omega | exact False.elim hj | (dsimp only at hj ⊢; omega))
    subst hp
    exact ⟨hI53, hK55⟩
  refine ⟨fun c1 => ?_, fun c1 => ?_⟩
  · skip
    refine ⟨_, s_X8_wall  ((0 : Int32)) (a2) hI , ?_⟩
    intro v63 lg58 it59 hq
    obtain ⟨hI60, hK61⟩ := hq
    have hK62 : Kc (fun j => (2 ≤ j ∧ j < 19) ∨ (55 ≤ j ∧ j < 450) ∨ (486 ≤ j ∧ j < 489)) lg0 it0 lg58 it59 := kc_t hKr hK61 (fun j hj => by first | omega | exact False.elim hj | (dsimp only at hj ⊢; omega))
    subst hp
    exact ⟨hI60, hK62⟩
  refine ⟨fun c1 => ?_, fun c1 => ?_⟩
  · skip
    refine ⟨_, s_X8_wall  ((1 : Int32)) (a2) hI , ?_⟩
    intro v70 lg65 it66 hq
    obtain ⟨hI67, hK68⟩ := hq
    have hK69 : Kc (fun j => (2 ≤ j ∧ j < 19) ∨ (55 ≤ j ∧ j < 450) ∨ (486 ≤ j ∧ j < 489)) lg0 it0 lg65 it66 := kc_t hKr hK68 (fun j hj => by first | omega | exact False.elim hj | (dsimp only at hj ⊢; omega))
    subst hp
    exact ⟨hI67, hK69⟩
  refine ⟨_, s_X8_go  (a2) hI , ?_⟩
  intro v77 lg72 it73 hq
  obtain ⟨hI74, hK75⟩ := hq
  have hK76 : Kc (fun j => (2 ≤ j ∧ j < 19) ∨ (55 ≤ j ∧ j < 450) ∨ (486 ≤ j ∧ j < 489)) lg0 it0 lg72 it73 := kc_t hKr hK75 (fun j hj => by first | omega | exact False.elim hj | (dsimp only at hj ⊢; omega))
  subst hp
  exact ⟨hI74, hK76⟩
set_option maxRecDepth 100000 in
theorem s_X8_feed (a1 : Int32) {lg0 : LGt} {it0 : ITt} (hI : I8 lg0 it0) : w_X8_feed a1 (fun (v : Int32) (lg' : LGt) (it' : ITt) => (I8 lg' it' ∧ Kc (fun j => (467 ≤ j ∧ j < 473)) lg0 it0 lg' it'))  lg0 it0 := by
  have hb_a1 := And.intro a1.le_toInt a1.toInt_lt
  have hKr : Kc (fun j => (467 ≤ j ∧ j < 473)) lg0 it0 lg0 it0 := kc_r
  generalize hp : (fun (v : Int32) (lg' : LGt) (it' : ITt) => (I8 lg' it' ∧ Kc (fun j => (467 ≤ j ∧ j < 473)) lg0 it0 lg' it')) = Pz
  unfold w_X8_feed
  refine ⟨fun c1 => ?_, fun c1 => ?_⟩
  · try simp only [Int32.lt_iff_toInt_lt, Int32.le_iff_toInt_le, ← Int32.toInt_inj, Int32.toInt_toInt64, ti_m14, ti_m13, ti_m12, ti_m11, ti_m10, ti_m9, ti_m6, ti_m5, ti_m4, ti_m3, ti_m2, ti_m1, ti_0, ti_1, ti_2, ti_3, ti_4, ti_5, ti_6, ti_7, ti_8, ti_9, ti_10, ti_11, ti_12, ti_19, ti_20, ti_21, ti_44, ti_45, ti_48, ti_57, ti_59, ti_60, ti_98, ti_99, ti_100, ti_101, ti_103, ti_108, ti_110, ti_114, ti_127] at c1
    subst hp
    exact ⟨hI, hKr⟩
  · try simp only [Int32.lt_iff_toInt_lt, Int32.le_iff_toInt_le, ← Int32.toInt_inj, Int32.toInt_toInt64, ti_m14, ti_m13, ti_m12, ti_m11, ti_m10, ti_m9, ti_m6, ti_m5, ti_m4, ti_m3, ti_m2, ti_m1, ti_0, ti_1, ti_2, ti_3, ti_4, ti_5, ti_6, ti_7, ti_8, ti_9, ti_10, ti_11, ti_12, ti_19, ti_20, ti_21, ti_44, ti_45, ti_48, ti_57, ti_59, ti_60, ti_98, ti_99, ti_100, ti_101, ti_103, ti_108, ti_110, ti_114, ti_127] at c1
    refine ⟨fun c7 => ?_, fun c7 => ?_⟩
    · try simp only [Int32.lt_iff_toInt_lt, Int32.le_iff_toInt_le, ← Int32.toInt_inj, Int32.toInt_toInt64, ti_m14, ti_m13, ti_m12, ti_m11, ti_m10, ti_m9, ti_m6, ti_m5, ti_m4, ti_m3, ti_m2, ti_m1, ti_0, ti_1, ti_2, ti_3, ti_4, ti_5, ti_6, ti_7, ti_8, ti_9, ti_10, ti_11, ti_12, ti_19, ti_20, ti_21, ti_44, ti_45, ti_48, ti_57, ti_59, ti_60, ti_98, ti_99, ti_100, ti_101, ti_103, ti_108, ti_110, ti_114, ti_127] at c7
      have f12 : 0 ≤ (it0 467 1).toInt ∧ (it0 467 1).toInt ≤ 100 := i8_71 hI
      refine ⟨fun c22 => ?_, fun c22 => ?_⟩
      · try simp only [Int32.lt_iff_toInt_lt, Int32.le_iff_toInt_le, ← Int32.toInt_inj, Int32.toInt_toInt64, ti_m14, ti_m13, ti_m12, ti_m11, ti_m10, ti_m9, ti_m6, ti_m5, ti_m4, ti_m3, ti_m2, ti_m1, ti_0, ti_1, ti_2, ti_3, ti_4, ti_5, ti_6, ti_7, ti_8, ti_9, ti_10, ti_11, ti_12, ti_19, ti_20, ti_21, ti_44, ti_45, ti_48, ti_57, ti_59, ti_60, ti_98, ti_99, ti_100, ti_101, ti_103, ti_108, ti_110, ti_114, ti_127] at c22
        have hi13 : vp_in (it0 467 1) 100 := vp_of (by first | omega | ((try simp only [Int32.lt_iff_toInt_lt, Int32.le_iff_toInt_le, ← Int32.toInt_inj, Int32.toInt_toInt64, ti_m14, ti_m13, ti_m12, ti_m11, ti_m10, ti_m9, ti_m6, ti_m5, ti_m4, ti_m3, ti_m2, ti_m1, ti_0, ti_1, ti_2, ti_3, ti_4, ti_5, ti_6, ti_7, ti_8, ti_9, ti_10, ti_11, ti_12, ti_19, ti_20, ti_21, ti_44, ti_45, ti_48, ti_57, ti_59, ti_60, ti_98, ti_99, ti_100, ti_101, ti_103, ti_108, ti_110, ti_114, ti_127]); omega) | (split <;> omega)) (by first | omega | ((try simp only [Int32.lt_iff_toInt_lt, Int32.le_iff_toInt_le, ← Int32.toInt_inj, Int32.toInt_toInt64, ti_m14, ti_m13, ti_m12, ti_m11, ti_m10, ti_m9, ti_m6, ti_m5, ti_m4, ti_m3, ti_m2, ti_m1, ti_0, ti_1, ti_2, ti_3, ti_4, ti_5, ti_6, ti_7, ti_8, ti_9, ti_10, ti_11, ti_12, ti_19, ti_20, ti_21, ti_44, ti_45, ti_48, ti_57, ti_59, ti_60, ti_98, ti_99, ti_100, ti_101, ti_103, ti_108, ti_110, ti_114, ti_127]); omega) | (split <;> omega))
        refine ⟨hi13, ?_⟩
        have hz14 := vlt hi13
        intro it15 em16
        have hI17 : I8 lg0 it15 := by rw [em16]; exact i8_u hI (ok8_a (oq_468) (by decide))
        have hK18 : Kc (fun j => (467 ≤ j ∧ j < 473)) lg0 it0 lg0 it15 := by rw [em16]; exact kc_u (by first | omega | (dsimp only; omega)) hKr
        have e19 : (it15 467 1).toInt = (it0 467 1).toInt := by rw [em16]; exact congrArg Int32.toInt (congrFun (u2_row (by decide)) 1)
        have f20 : 0 ≤ (it15 467 1).toInt ∧ (it15 467 1).toInt ≤ 100 := i8_71 hI17
        try have f21 : (((it15 467 1) + 1) : Int32).toInt = ((it15 467 1)).toInt + 1 := ad32 (a := ((it15 467 1)).toInt) (b := 1) (rfl) (ti_1) (by omega) (by omega)
        intro it22 em23
        have hI24 : I8 lg0 it22 := by rw [em23]; exact i8_u hI17 (ok8_7 (oq_467) ⟨fun _ => by (try simp only [Int32.lt_iff_toInt_lt, Int32.le_iff_toInt_le, ← Int32.toInt_inj, Int32.toInt_toInt64, ti_m14, ti_m13, ti_m12, ti_m11, ti_m10, ti_m9, ti_m6, ti_m5, ti_m4, ti_m3, ti_m2, ti_m1, ti_0, ti_1, ti_2, ti_3, ti_4, ti_5, ti_6, ti_7, ti_8, ti_9, ti_10, ti_11, ti_12, ti_19, ti_20, ti_21, ti_44, ti_45, ti_48, ti_57, ti_59, ti_60, ti_98, ti_99, ti_100, ti_101, ti_103, ti_108, ti_110, ti_114, ti_127]); omega, fun q => absurd q (by decide), fun q => absurd q (by decide)⟩)
        have hK25 : Kc (fun j => (467 ≤ j ∧ j < 473)) lg0 it0 lg0 it22 := by rw [em23]; exact kc_u (by first | omega | (dsimp only; omega)) hK18
        have f27 : 0 ≤ (it22 467 1).toInt ∧ (it22 467 1).toInt ≤ 100 := i8_71 hI24
        subst hp
        exact ⟨hI24, hK25⟩
      · try simp only [Int32.lt_iff_toInt_lt, Int32.le_iff_toInt_le, ← Int32.toInt_inj, Int32.toInt_toInt64, ti_m14, ti_m13, ti_m12, ti_m11, ti_m10, ti_m9, ti_m6, ti_m5, ti_m4, ti_m3, ti_m2, ti_m1, ti_0, ti_1, ti_2, ti_3, ti_4, ti_5, ti_6, ti_7, ti_8, ti_9, ti_10, ti_11, ti_12, ti_19, ti_20, ti_21, ti_44, ti_45, ti_48, ti_57, ti_59, ti_60, ti_98, ti_99, ti_100, ti_101, ti_103, ti_108, ti_110, ti_114, ti_127] at c22
        subst hp
        exact ⟨hI, hKr⟩
    · try simp only [Int32.lt_iff_toInt_lt, Int32.le_iff_toInt_le, ← Int32.toInt_inj, Int32.toInt_toInt64, ti_m14, ti_m13, ti_m12, ti_m11, ti_m10, ti_m9, ti_m6, ti_m5, ti_m4, ti_m3, ti_m2, ti_m1, ti_0, ti_1, ti_2, ti_3, ti_4, ti_5, ti_6, ti_7, ti_8, ti_9, ti_10, ti_11, ti_12, ti_19, ti_20, ti_21, ti_44, ti_45, ti_48, ti_57, ti_59, ti_60, ti_98, ti_99, ti_100, ti_101, ti_103, ti_108, ti_110, ti_114, ti_127] at c7
      subst hp
      exact ⟨hI, hKr⟩
set_option maxRecDepth 100000 in
theorem s_X8_read {lg0 : LGt} {it0 : ITt} (hI : I8 lg0 it0) : w_X8_read  (fun (v : Int32) (lg' : LGt) (it' : ITt) => (I8 lg' it' ∧ Kc (fun j => (2 ≤ j ∧ j < 19) ∨ (55 ≤ j ∧ j < 450) ∨ (486 ≤ j ∧ j < 489) ∨ (467 ≤ j ∧ j < 473)) lg0 it0 lg' it'))  lg0 it0 := by
  have hKr : Kc (fun j => (2 ≤ j ∧ j < 19) ∨ (55 ≤ j ∧ j < 450) ∨ (486 ≤ j ∧ j < 489) ∨ (467 ≤ j ∧ j < 473)) lg0 it0 lg0 it0 := kc_r
  generalize hp : (fun (v : Int32) (lg' : LGt) (it' : ITt) => (I8 lg' it' ∧ Kc (fun j => (2 ≤ j ∧ j < 19) ∨ (55 ≤ j ∧ j < 450) ∨ (486 ≤ j ∧ j < 489) ∨ (467 ≤ j ∧ j < 473)) lg0 it0 lg' it')) = Pz
  unfold w_X8_read
  refine ⟨_, s_X7_scan   hI , ?_⟩
  intro v36 lg31 it32 hq
  obtain ⟨⟨hI33, hK34⟩, ha37⟩ := hq
  have hK35 : Kc (fun j => (2 ≤ j ∧ j < 19) ∨ (55 ≤ j ∧ j < 450) ∨ (486 ≤ j ∧ j < 489) ∨ (467 ≤ j ∧ j < 473)) lg0 it0 lg31 it32 := kc_t hKr hK34 (fun j hj => by first | omega | exact False.elim hj | (dsimp only at hj ⊢; omega))
  intro it38 em39
  have hI40 : I8 lg31 it38 := by rw [em39]; exact i8_u hI33 (ok8_7 (oq_467) ⟨fun _ => by (try simp only [Int32.lt_iff_toInt_lt, Int32.le_iff_toInt_le, ← Int32.toInt_inj, Int32.toInt_toInt64, ti_m14, ti_m13, ti_m12, ti_m11, ti_m10, ti_m9, ti_m6, ti_m5, ti_m4, ti_m3, ti_m2, ti_m1, ti_0, ti_1, ti_2, ti_3, ti_4, ti_5, ti_6, ti_7, ti_8, ti_9, ti_10, ti_11, ti_12, ti_19, ti_20, ti_21, ti_44, ti_45, ti_48, ti_57, ti_59, ti_60, ti_98, ti_99, ti_100, ti_101, ti_103, ti_108, ti_110, ti_114, ti_127]); omega, fun q => absurd q (by decide), fun q => absurd q (by decide)⟩)
  have hK41 : Kc (fun j => (2 ≤ j ∧ j < 19) ∨ (55 ≤ j ∧ j < 450) ∨ (486 ≤ j ∧ j < 489) ∨ (467 ≤ j ∧ j < 473)) lg0 it0 lg31 it38 := by rw [em39]; exact kc_u (by first | omega | (dsimp only; omega)) hK35
  refine ⟨fun c17 => ?_, fun c17 => ?_⟩
  · try simp only [Int32.lt_iff_toInt_lt, Int32.le_iff_toInt_le, ← Int32.toInt_inj, Int32.toInt_toInt64, ti_m14, ti_m13, ti_m12, ti_m11, ti_m10, ti_m9, ti_m6, ti_m5, ti_m4, ti_m3, ti_m2, ti_m1, ti_0, ti_1, ti_2, ti_3, ti_4, ti_5, ti_6, ti_7, ti_8, ti_9, ti_10, ti_11, ti_12, ti_19, ti_20, ti_21, ti_44, ti_45, ti_48, ti_57, ti_59, ti_60, ti_98, ti_99, ti_100, ti_101, ti_103, ti_108, ti_110, ti_114, ti_127] at c17
    have lp35 : ∀ (n : Nat) (x2 : Int32) (x3 : Int32) (lg : LGt) (it : ITt), I8 lg it → Kc (fun j => (2 ≤ j ∧ j < 19) ∨ (55 ≤ j ∧ j < 450) ∨ (486 ≤ j ∧ j < 489) ∨ (467 ≤ j ∧ j < 473)) lg0 it0 lg it → ((0 ≤ (x3).toInt)) → (13 - (x3).toInt).toNat < n → w_X8_read_b35  Pz  n x2 x3 lg it := by
      intro n35
      induction n35 with
      | zero => intro x2 x3 lg it _ _ _ hn; exact absurd hn (Nat.not_lt_zero _)
      | succ n35 ih35 =>
        intro x2 x3 lg44 it45 hI42 hK43 hv hn
        unfold w_X8_read_b35
        have hv35_0 := hv
        have f46 : 0 ≤ (it45 467 6).toInt ∧ (it45 467 6).toInt ≤ 12 := i8_76 hI42
        refine ⟨fun c43 => ?_, fun c43 => ?_⟩
        · try simp only [Int32.lt_iff_toInt_lt, Int32.le_iff_toInt_le, ← Int32.toInt_inj, Int32.toInt_toInt64, ti_m14, ti_m13, ti_m12, ti_m11, ti_m10, ti_m9, ti_m6, ti_m5, ti_m4, ti_m3, ti_m2, ti_m1, ti_0, ti_1, ti_2, ti_3, ti_4, ti_5, ti_6, ti_7, ti_8, ti_9, ti_10, ti_11, ti_12, ti_19, ti_20, ti_21, ti_44, ti_45, ti_48, ti_57, ti_59, ti_60, ti_98, ti_99, ti_100, ti_101, ti_103, ti_108, ti_110, ti_114, ti_127] at c43
          subst hp
          exact ⟨hI42, hK43⟩
        · try simp only [Int32.lt_iff_toInt_lt, Int32.le_iff_toInt_le, ← Int32.toInt_inj, Int32.toInt_toInt64, ti_m14, ti_m13, ti_m12, ti_m11, ti_m10, ti_m9, ti_m6, ti_m5, ti_m4, ti_m3, ti_m2, ti_m1, ti_0, ti_1, ti_2, ti_3, ti_4, ti_5, ti_6, ti_7, ti_8, ti_9, ti_10, ti_11, ti_12, ti_19, ti_20, ti_21, ti_44, ti_45, ti_48, ti_57, ti_59, ti_60, ti_98, ti_99, ti_100, ti_101, ti_103, ti_108, ti_110, ti_114, ti_127] at c43
          have hi47 : vp_in x3 12 := vp_of (by first | omega | ((try simp only [Int32.lt_iff_toInt_lt, Int32.le_iff_toInt_le, ← Int32.toInt_inj, Int32.toInt_toInt64, ti_m14, ti_m13, ti_m12, ti_m11, ti_m10, ti_m9, ti_m6, ti_m5, ti_m4, ti_m3, ti_m2, ti_m1, ti_0, ti_1, ti_2, ti_3, ti_4, ti_5, ti_6, ti_7, ti_8, ti_9, ti_10, ti_11, ti_12, ti_19, ti_20, ti_21, ti_44, ti_45, ti_48, ti_57, ti_59, ti_60, ti_98, ti_99, ti_100, ti_101, ti_103, ti_108, ti_110, ti_114, ti_127]); omega) | (split <;> omega)) (by first | omega | ((try simp only [Int32.lt_iff_toInt_lt, Int32.le_iff_toInt_le, ← Int32.toInt_inj, Int32.toInt_toInt64, ti_m14, ti_m13, ti_m12, ti_m11, ti_m10, ti_m9, ti_m6, ti_m5, ti_m4, ti_m3, ti_m2, ti_m1, ti_0, ti_1, ti_2, ti_3, ti_4, ti_5, ti_6, ti_7, ti_8, ti_9, ti_10, ti_11, ti_12, ti_19, ti_20, ti_21, ti_44, ti_45, ti_48, ti_57, ti_59, ti_60, ti_98, ti_99, ti_100, ti_101, ti_103, ti_108, ti_110, ti_114, ti_127]); omega) | (split <;> omega))
          refine ⟨hi47, ?_⟩
          have hz48 := vlt hi47
          have hi49 : vp_in x3 12 := vp_of (by first | omega | ((try simp only [Int32.lt_iff_toInt_lt, Int32.le_iff_toInt_le, ← Int32.toInt_inj, Int32.toInt_toInt64, ti_m14, ti_m13, ti_m12, ti_m11, ti_m10, ti_m9, ti_m6, ti_m5, ti_m4, ti_m3, ti_m2, ti_m1, ti_0, ti_1, ti_2, ti_3, ti_4, ti_5, ti_6, ti_7, ti_8, ti_9, ti_10, ti_11, ti_12, ti_19, ti_20, ti_21, ti_44, ti_45, ti_48, ti_57, ti_59, ti_60, ti_98, ti_99, ti_100, ti_101, ti_103, ti_108, ti_110, ti_114, ti_127]); omega) | (split <;> omega)) (by first | omega | ((try simp only [Int32.lt_iff_toInt_lt, Int32.le_iff_toInt_le, ← Int32.toInt_inj, Int32.toInt_toInt64, ti_m14, ti_m13, ti_m12, ti_m11, ti_m10, ti_m9, ti_m6, ti_m5, ti_m4, ti_m3, ti_m2, ti_m1, ti_0, ti_1, ti_2, ti_3, ti_4, ti_5, ti_6, ti_7, ti_8, ti_9, ti_10, ti_11, ti_12, ti_19, ti_20, ti_21, ti_44, ti_45, ti_48, ti_57, ti_59, ti_60, ti_98, ti_99, ti_100, ti_101, ti_103, ti_108, ti_110, ti_114, ti_127]); omega) | (split <;> omega))
          refine ⟨hi49, ?_⟩
          have hz50 := vlt hi49
          have hi51 : vp_in x3 12 := vp_of (by first | omega | ((try simp only [Int32.lt_iff_toInt_lt, Int32.le_iff_toInt_le, ← Int32.toInt_inj, Int32.toInt_toInt64, ti_m14, ti_m13, ti_m12, ti_m11, ti_m10, ti_m9, ti_m6, ti_m5, ti_m4, ti_m3, ti_m2, ti_m1, ti_0, ti_1, ti_2, ti_3, ti_4, ti_5, ti_6, ti_7, ti_8, ti_9, ti_10, ti_11, ti_12, ti_19, ti_20, ti_21, ti_44, ti_45, ti_48, ti_57, ti_59, ti_60, ti_98, ti_99, ti_100, ti_101, ti_103, ti_108, ti_110, ti_114, ti_127]); omega) | (split <;> omega)) (by first | omega | ((try simp only [Int32.lt_iff_toInt_lt, Int32.le_iff_toInt_le, ← Int32.toInt_inj, Int32.toInt_toInt64, ti_m14, ti_m13, ti_m12, ti_m11, ti_m10, ti_m9, ti_m6, ti_m5, ti_m4, ti_m3, ti_m2, ti_m1, ti_0, ti_1, ti_2, ti_3, ti_4, ti_5, ti_6, ti_7, ti_8, ti_9, ti_10, ti_11, ti_12, ti_19, ti_20, ti_21, ti_44, ti_45, ti_48, ti_57, ti_59, ti_60, ti_98, ti_99, ti_100, ti_101, ti_103, ti_108, ti_110, ti_114, ti_127]); omega) | (split <;> omega))
          refine ⟨hi51, ?_⟩
          have hz52 := vlt hi51
          have hi53 : vp_in x3 12 := vp_of (by first | omega | ((try simp only [Int32.lt_iff_toInt_lt, Int32.le_iff_toInt_le, ← Int32.toInt_inj, Int32.toInt_toInt64, ti_m14, ti_m13, ti_m12, ti_m11, ti_m10, ti_m9, ti_m6, ti_m5, ti_m4, ti_m3, ti_m2, ti_m1, ti_0, ti_1, ti_2, ti_3, ti_4, ti_5, ti_6, ti_7, ti_8, ti_9, ti_10, ti_11, ti_12, ti_19, ti_20, ti_21, ti_44, ti_45, ti_48, ti_57, ti_59, ti_60, ti_98, ti_99, ti_100, ti_101, ti_103, ti_108, ti_110, ti_114, ti_127]); omega) | (split <;> omega)) (by first | omega | ((try simp only [Int32.lt_iff_toInt_lt, Int32.le_iff_toInt_le, ← Int32.toInt_inj, Int32.toInt_toInt64, ti_m14, ti_m13, ti_m12, ti_m11, ti_m10, ti_m9, ti_m6, ti_m5, ti_m4, ti_m3, ti_m2, ti_m1, ti_0, ti_1, ti_2, ti_3, ti_4, ti_5, ti_6, ti_7, ti_8, ti_9, ti_10, ti_11, ti_12, ti_19, ti_20, ti_21, ti_44, ti_45, ti_48, ti_57, ti_59, ti_60, ti_98, ti_99, ti_100, ti_101, ti_103, ti_108, ti_110, ti_114, ti_127]); omega) | (split <;> omega))
          refine ⟨hi53, ?_⟩
          have hz54 := vlt hi53
          refine ⟨_, s_X8_perform  ((it45 469 x3.toNatClampNeg)) ((it45 470 x3.toNatClampNeg)) ((it45 471 x3.toNatClampNeg)) ((it45 472 x3.toNatClampNeg)) hI42 , ?_⟩
          intro v60 lg55 it56 hq
          obtain ⟨hI57, hK58⟩ := hq
          have hK59 : Kc (fun j => (2 ≤ j ∧ j < 19) ∨ (55 ≤ j ∧ j < 450) ∨ (486 ≤ j ∧ j < 489) ∨ (467 ≤ j ∧ j < 473)) lg0 it0 lg55 it56 := kc_t hK43 hK58 (fun j hj => by first | omega | exact False.elim hj | (dsimp only at hj ⊢; omega))
          try have e62 : (it56 467 6).toInt = (it45 467 6).toInt := congrArg (fun f => Int32.toInt (f 6)) (hK58 467 (by first | omega | (dsimp only; omega))).2
          refine ⟨fun c93 => ?_, fun c93 => ?_⟩
          · try simp only [Int32.lt_iff_toInt_lt, Int32.le_iff_toInt_le, ← Int32.toInt_inj, Int32.toInt_toInt64, ti_m14, ti_m13, ti_m12, ti_m11, ti_m10, ti_m9, ti_m6, ti_m5, ti_m4, ti_m3, ti_m2, ti_m1, ti_0, ti_1, ti_2, ti_3, ti_4, ti_5, ti_6, ti_7, ti_8, ti_9, ti_10, ti_11, ti_12, ti_19, ti_20, ti_21, ti_44, ti_45, ti_48, ti_57, ti_59, ti_60, ti_98, ti_99, ti_100, ti_101, ti_103, ti_108, ti_110, ti_114, ti_127] at c93
            try have f63 : ((x3 + 1) : Int32).toInt = (x3).toInt + 1 := ad32 (a := (x3).toInt) (b := 1) (rfl) (ti_1) (by omega) (by omega)
            exact ih35 (x2) ((x3 + 1)) _ _ hI57 hK59 (by first | omega | assumption) (by omega)
          · try simp only [Int32.lt_iff_toInt_lt, Int32.le_iff_toInt_le, ← Int32.toInt_inj, Int32.toInt_toInt64, ti_m14, ti_m13, ti_m12, ti_m11, ti_m10, ti_m9, ti_m6, ti_m5, ti_m4, ti_m3, ti_m2, ti_m1, ti_0, ti_1, ti_2, ti_3, ti_4, ti_5, ti_6, ti_7, ti_8, ti_9, ti_10, ti_11, ti_12, ti_19, ti_20, ti_21, ti_44, ti_45, ti_48, ti_57, ti_59, ti_60, ti_98, ti_99, ti_100, ti_101, ti_103, ti_108, ti_110, ti_114, ti_127] at c93
            try have f64 : ((x2 + 1) : Int32).toInt = (x2).toInt + 1 := ad32 (a := (x2).toInt) (b := 1) (rfl) (ti_1) (by omega) (by omega)
            try have f65 : ((x3 + 1) : Int32).toInt = (x3).toInt + 1 := ad32 (a := (x3).toInt) (b := 1) (rfl) (ti_1) (by omega) (by omega)
            exact ih35 ((x2 + 1)) ((x3 + 1)) _ _ hI57 hK59 (by first | omega | assumption) (by omega)
    have t66 := ti_0
    have t67 := ti_0
    exact ⟨_, lp35 ((13 - ((0 : Int32)).toInt).toNat + 1) ((0 : Int32)) ((0 : Int32)) _ _ hI40 hK41 (by first | omega | assumption) (Nat.lt_succ_self _)⟩
  · try simp only [Int32.lt_iff_toInt_lt, Int32.le_iff_toInt_le, ← Int32.toInt_inj, Int32.toInt_toInt64, ti_m14, ti_m13, ti_m12, ti_m11, ti_m10, ti_m9, ti_m6, ti_m5, ti_m4, ti_m3, ti_m2, ti_m1, ti_0, ti_1, ti_2, ti_3, ti_4, ti_5, ti_6, ti_7, ti_8, ti_9, ti_10, ti_11, ti_12, ti_19, ti_20, ti_21, ti_44, ti_45, ti_48, ti_57, ti_59, ti_60, ti_98, ti_99, ti_100, ti_101, ti_103, ti_108, ti_110, ti_114, ti_127] at c17
    have f68 : 0 ≤ (it38 467 7).toInt ∧ (it38 467 7).toInt ≤ 100 := i8_77 hI40
    try have f69 : (((-10) - (it38 467 7)) : Int32).toInt = (-10) - ((it38 467 7)).toInt := sb32 (a := (-10)) (b := ((it38 467 7)).toInt) (ti_m10) (rfl) (by omega) (by omega)
    subst hp
    exact ⟨hI40, hK41⟩
set_option maxRecDepth 100000 in
theorem s_X8_of (a1 : Int32) (a2 : Int32) (a3 : Int32) {lg0 : LGt} {it0 : ITt} (hI : I8 lg0 it0) : w_X8_of a1 a2 a3 (fun (v : Int64) (lg' : LGt) (it' : ITt) => (I8 lg' it' ∧ Kc (fun j => False) lg0 it0 lg' it'))  lg0 it0 := by
  have hb_a1 := And.intro a1.le_toInt a1.toInt_lt
  have hb_a2 := And.intro a2.le_toInt a2.toInt_lt
  have hb_a3 := And.intro a3.le_toInt a3.toInt_lt
  have hKr : Kc (fun j => False) lg0 it0 lg0 it0 := kc_r
  generalize hp : (fun (v : Int64) (lg' : LGt) (it' : ITt) => (I8 lg' it' ∧ Kc (fun j => False) lg0 it0 lg' it')) = Pz
  unfold w_X8_of
  have f18 : 0 ≤ (it0 2 0).toInt ∧ (it0 2 0).toInt ≤ 6 := i8_3 hI oq_2
  refine ⟨fun c5 => ?_, fun c5 => ?_⟩
  · try simp only [Int32.lt_iff_toInt_lt, Int32.le_iff_toInt_le, ← Int32.toInt_inj, Int32.toInt_toInt64, ti_m14, ti_m13, ti_m12, ti_m11, ti_m10, ti_m9, ti_m6, ti_m5, ti_m4, ti_m3, ti_m2, ti_m1, ti_0, ti_1, ti_2, ti_3, ti_4, ti_5, ti_6, ti_7, ti_8, ti_9, ti_10, ti_11, ti_12, ti_19, ti_20, ti_21, ti_44, ti_45, ti_48, ti_57, ti_59, ti_60, ti_98, ti_99, ti_100, ti_101, ti_103, ti_108, ti_110, ti_114, ti_127] at c5
    subst hp
    exact ⟨hI, hKr⟩
  · try simp only [Int32.lt_iff_toInt_lt, Int32.le_iff_toInt_le, ← Int32.toInt_inj, Int32.toInt_toInt64, ti_m14, ti_m13, ti_m12, ti_m11, ti_m10, ti_m9, ti_m6, ti_m5, ti_m4, ti_m3, ti_m2, ti_m1, ti_0, ti_1, ti_2, ti_3, ti_4, ti_5, ti_6, ti_7, ti_8, ti_9, ti_10, ti_11, ti_12, ti_19, ti_20, ti_21, ti_44, ti_45, ti_48, ti_57, ti_59, ti_60, ti_98, ti_99, ti_100, ti_101, ti_103, ti_108, ti_110, ti_114, ti_127] at c5
    refine ⟨fun c9 => ?_, fun c9 => ?_⟩
    · try simp only [Int32.lt_iff_toInt_lt, Int32.le_iff_toInt_le, ← Int32.toInt_inj, Int32.toInt_toInt64, ti_m14, ti_m13, ti_m12, ti_m11, ti_m10, ti_m9, ti_m6, ti_m5, ti_m4, ti_m3, ti_m2, ti_m1, ti_0, ti_1, ti_2, ti_3, ti_4, ti_5, ti_6, ti_7, ti_8, ti_9, ti_10, ti_11, ti_12, ti_19, ti_20, ti_21, ti_44, ti_45, ti_48, ti_57, ti_59, ti_60, ti_98, ti_99, ti_100, ti_101, ti_103, ti_108, ti_110, ti_114, ti_127] at c9
      subst hp
      exact ⟨hI, hKr⟩
    · try simp only [Int32.lt_iff_toInt_lt, Int32.le_iff_toInt_le, ← Int32.toInt_inj, Int32.toInt_toInt64, ti_m14, ti_m13, ti_m12, ti_m11, ti_m10, ti_m9, ti_m6, ti_m5, ti_m4, ti_m3, ti_m2, ti_m1, ti_0, ti_1, ti_2, ti_3, ti_4, ti_5, ti_6, ti_7, ti_8, ti_9, ti_10, ti_11, ti_12, ti_19, ti_20, ti_21, ti_44, ti_45, ti_48, ti_57, ti_59, ti_60, ti_98, ti_99, ti_100, ti_101, ti_103, ti_108, ti_110, ti_114, ti_127] at c9
      refine ⟨fun c14 => ?_, fun c14 => ?_⟩
      · try simp only [Int32.lt_iff_toInt_lt, Int32.le_iff_toInt_le, ← Int32.toInt_inj, Int32.toInt_toInt64, ti_m14, ti_m13, ti_m12, ti_m11, ti_m10, ti_m9, ti_m6, ti_m5, ti_m4, ti_m3, ti_m2, ti_m1, ti_0, ti_1, ti_2, ti_3, ti_4, ti_5, ti_6, ti_7, ti_8, ti_9, ti_10, ti_11, ti_12, ti_19, ti_20, ti_21, ti_44, ti_45, ti_48, ti_57, ti_59, ti_60, ti_98, ti_99, ti_100, ti_101, ti_103, ti_108, ti_110, ti_114, ti_127] at c14
        subst hp
        exact ⟨hI, hKr⟩
      · try simp only [Int32.lt_iff_toInt_lt, Int32.le_iff_toInt_le, ← Int32.toInt_inj, Int32.toInt_toInt64, ti_m14, ti_m13, ti_m12, ti_m11, ti_m10, ti_m9, ti_m6, ti_m5, ti_m4, ti_m3, ti_m2, ti_m1, ti_0, ti_1, ti_2, ti_3, ti_4, ti_5, ti_6, ti_7, ti_8, ti_9, ti_10, ti_11, ti_12, ti_19, ti_20, ti_21, ti_44, ti_45, ti_48, ti_57, ti_59, ti_60, ti_98, ti_99, ti_100, ti_101, ti_103, ti_108, ti_110, ti_114, ti_127] at c14
        refine ⟨fun c21 => ?_, fun c21 => ?_⟩
        · try simp only [Int32.lt_iff_toInt_lt, Int32.le_iff_toInt_le, ← Int32.toInt_inj, Int32.toInt_toInt64, ti_m14, ti_m13, ti_m12, ti_m11, ti_m10, ti_m9, ti_m6, ti_m5, ti_m4, ti_m3, ti_m2, ti_m1, ti_0, ti_1, ti_2, ti_3, ti_4, ti_5, ti_6, ti_7, ti_8, ti_9, ti_10, ti_11, ti_12, ti_19, ti_20, ti_21, ti_44, ti_45, ti_48, ti_57, ti_59, ti_60, ti_98, ti_99, ti_100, ti_101, ti_103, ti_108, ti_110, ti_114, ti_127] at c21
          refine ⟨fun c30 => ?_, fun c30 => ?_⟩
          · try simp only [Int32.lt_iff_toInt_lt, Int32.le_iff_toInt_le, ← Int32.toInt_inj, Int32.toInt_toInt64, ti_m14, ti_m13, ti_m12, ti_m11, ti_m10, ti_m9, ti_m6, ti_m5, ti_m4, ti_m3, ti_m2, ti_m1, ti_0, ti_1, ti_2, ti_3, ti_4, ti_5, ti_6, ti_7, ti_8, ti_9, ti_10, ti_11, ti_12, ti_19, ti_20, ti_21, ti_44, ti_45, ti_48, ti_57, ti_59, ti_60, ti_98, ti_99, ti_100, ti_101, ti_103, ti_108, ti_110, ti_114, ti_127] at c30
            have hc19 : vp_in a1 6 := vp_of (by first | omega | ((try simp only [Int32.lt_iff_toInt_lt, Int32.le_iff_toInt_le, ← Int32.toInt_inj, Int32.toInt_toInt64, ti_m14, ti_m13, ti_m12, ti_m11, ti_m10, ti_m9, ti_m6, ti_m5, ti_m4, ti_m3, ti_m2, ti_m1, ti_0, ti_1, ti_2, ti_3, ti_4, ti_5, ti_6, ti_7, ti_8, ti_9, ti_10, ti_11, ti_12, ti_19, ti_20, ti_21, ti_44, ti_45, ti_48, ti_57, ti_59, ti_60, ti_98, ti_99, ti_100, ti_101, ti_103, ti_108, ti_110, ti_114, ti_127]); omega) | (split <;> omega)) (by first | omega | ((try simp only [Int32.lt_iff_toInt_lt, Int32.le_iff_toInt_le, ← Int32.toInt_inj, Int32.toInt_toInt64, ti_m14, ti_m13, ti_m12, ti_m11, ti_m10, ti_m9, ti_m6, ti_m5, ti_m4, ti_m3, ti_m2, ti_m1, ti_0, ti_1, ti_2, ti_3, ti_4, ti_5, ti_6, ti_7, ti_8, ti_9, ti_10, ti_11, ti_12, ti_19, ti_20, ti_21, ti_44, ti_45, ti_48, ti_57, ti_59, ti_60, ti_98, ti_99, ti_100, ti_101, ti_103, ti_108, ti_110, ti_114, ti_127]); omega) | (split <;> omega))
            refine ⟨hc19, ?_⟩
            have hz20 := vlt hc19
            subst hp
            exact ⟨hI, hKr⟩
          · try simp only [Int32.lt_iff_toInt_lt, Int32.le_iff_toInt_le, ← Int32.toInt_inj, Int32.toInt_toInt64, ti_m14, ti_m13, ti_m12, ti_m11, ti_m10, ti_m9, ti_m6, ti_m5, ti_m4, ti_m3, ti_m2, ti_m1, ti_0, ti_1, ti_2, ti_3, ti_4, ti_5, ti_6, ti_7, ti_8, ti_9, ti_10, ti_11, ti_12, ti_19, ti_20, ti_21, ti_44, ti_45, ti_48, ti_57, ti_59, ti_60, ti_98, ti_99, ti_100, ti_101, ti_103, ti_108, ti_110, ti_114, ti_127] at c30
            refine ⟨fun c34 => ?_, fun c34 => ?_⟩
            · try simp only [Int32.lt_iff_toInt_lt, Int32.le_iff_toInt_le, ← Int32.toInt_inj, Int32.toInt_toInt64, ti_m14, ti_m13, ti_m12, ti_m11, ti_m10, ti_m9, ti_m6, ti_m5, ti_m4, ti_m3, ti_m2, ti_m1, ti_0, ti_1, ti_2, ti_3, ti_4, ti_5, ti_6, ti_7, ti_8, ti_9, ti_10, ti_11, ti_12, ti_19, ti_20, ti_21, ti_44, ti_45, ti_48, ti_57, ti_59, ti_60, ti_98, ti_99, ti_100, ti_101, ti_103, ti_108, ti_110, ti_114, ti_127] at c34
              subst hp
              exact ⟨hI, hKr⟩
            · try simp only [Int32.lt_iff_toInt_lt, Int32.le_iff_toInt_le, ← Int32.toInt_inj, Int32.toInt_toInt64, ti_m14, ti_m13, ti_m12, ti_m11, ti_m10, ti_m9, ti_m6, ti_m5, ti_m4, ti_m3, ti_m2, ti_m1, ti_0, ti_1, ti_2, ti_3, ti_4, ti_5, ti_6, ti_7, ti_8, ti_9, ti_10, ti_11, ti_12, ti_19, ti_20, ti_21, ti_44, ti_45, ti_48, ti_57, ti_59, ti_60, ti_98, ti_99, ti_100, ti_101, ti_103, ti_108, ti_110, ti_114, ti_127] at c34
              have hi21 : vp_in a1 6 := vp_of (by first | omega | ((try simp only [Int32.lt_iff_toInt_lt, Int32.le_iff_toInt_le, ← Int32.toInt_inj, Int32.toInt_toInt64, ti_m14, ti_m13, ti_m12, ti_m11, ti_m10, ti_m9, ti_m6, ti_m5, ti_m4, ti_m3, ti_m2, ti_m1, ti_0, ti_1, ti_2, ti_3, ti_4, ti_5, ti_6, ti_7, ti_8, ti_9, ti_10, ti_11, ti_12, ti_19, ti_20, ti_21, ti_44, ti_45, ti_48, ti_57, ti_59, ti_60, ti_98, ti_99, ti_100, ti_101, ti_103, ti_108, ti_110, ti_114, ti_127]); omega) | (split <;> omega)) (by first | omega | ((try simp only [Int32.lt_iff_toInt_lt, Int32.le_iff_toInt_le, ← Int32.toInt_inj, Int32.toInt_toInt64, ti_m14, ti_m13, ti_m12, ti_m11, ti_m10, ti_m9, ti_m6, ti_m5, ti_m4, ti_m3, ti_m2, ti_m1, ti_0, ti_1, ti_2, ti_3, ti_4, ti_5, ti_6, ti_7, ti_8, ti_9, ti_10, ti_11, ti_12, ti_19, ti_20, ti_21, ti_44, ti_45, ti_48, ti_57, ti_59, ti_60, ti_98, ti_99, ti_100, ti_101, ti_103, ti_108, ti_110, ti_114, ti_127]); omega) | (split <;> omega))
              refine ⟨hi21, ?_⟩
              have hz22 := vlt hi21
              subst hp
              exact ⟨hI, hKr⟩
        · try simp only [Int32.lt_iff_toInt_lt, Int32.le_iff_toInt_le, ← Int32.toInt_inj, Int32.toInt_toInt64, ti_m14, ti_m13, ti_m12, ti_m11, ti_m10, ti_m9, ti_m6, ti_m5, ti_m4, ti_m3, ti_m2, ti_m1, ti_0, ti_1, ti_2, ti_3, ti_4, ti_5, ti_6, ti_7, ti_8, ti_9, ti_10, ti_11, ti_12, ti_19, ti_20, ti_21, ti_44, ti_45, ti_48, ti_57, ti_59, ti_60, ti_98, ti_99, ti_100, ti_101, ti_103, ti_108, ti_110, ti_114, ti_127] at c21
          subst hp
          exact ⟨hI, hKr⟩
set_option maxRecDepth 100000 in
theorem s_X8_told (a1 : Int32) {lg0 : LGt} {it0 : ITt} (hI : I8 lg0 it0) : w_X8_told a1 (fun (v : Int32) (lg' : LGt) (it' : ITt) => (I8 lg' it' ∧ Kc (fun j => (55 ≤ j ∧ j < 450)) lg0 it0 lg' it'))  lg0 it0 := by
  have hb_a1 := And.intro a1.le_toInt a1.toInt_lt
  have hKr : Kc (fun j => (55 ≤ j ∧ j < 450)) lg0 it0 lg0 it0 := kc_r
  generalize hp : (fun (v : Int32) (lg' : LGt) (it' : ITt) => (I8 lg' it' ∧ Kc (fun j => (55 ≤ j ∧ j < 450)) lg0 it0 lg' it')) = Pz
  unfold w_X8_told
  refine ⟨fun c1 => ?_, fun c1 => ?_, fun c1 => ?_, fun c1 => ?_, fun c1 => ?_, fun c1 => ?_, fun c1 => ?_, trivial⟩
  · skip
    subst hp
    exact ⟨hI, hKr⟩
  · skip
    have f43 : 0 ≤ (it0 2 0).toInt ∧ (it0 2 0).toInt ≤ 6 := i8_3 hI (oq_2)
    subst hp
    exact ⟨hI, hKr⟩
  · skip
    subst hp
    exact ⟨hI, hKr⟩
  · skip
    refine ⟨_, s_X8_toldWall  ((0 : Int32)) hI (by first | decide | omega | ((try simp only [Int32.lt_iff_toInt_lt, Int32.le_iff_toInt_le, ← Int32.toInt_inj, Int32.toInt_toInt64, ti_m14, ti_m13, ti_m12, ti_m11, ti_m10, ti_m9, ti_m6, ti_m5, ti_m4, ti_m3, ti_m2, ti_m1, ti_0, ti_1, ti_2, ti_3, ti_4, ti_5, ti_6, ti_7, ti_8, ti_9, ti_10, ti_11, ti_12, ti_19, ti_20, ti_21, ti_44, ti_45, ti_48, ti_57, ti_59, ti_60, ti_98, ti_99, ti_100, ti_101, ti_103, ti_108, ti_110, ti_114, ti_127]); omega)), ?_⟩
    intro v49 lg44 it45 hq
    obtain ⟨hI46, hK47⟩ := hq
    have hK48 : Kc (fun j => (55 ≤ j ∧ j < 450)) lg0 it0 lg44 it45 := kc_t hKr hK47 (fun j hj => by first | omega | exact False.elim hj | (dsimp only at hj ⊢; omega))
    subst hp
    exact ⟨hI46, hK48⟩
  · skip
    refine ⟨_, s_X8_toldWall  ((1 : Int32)) hI (by first | decide | omega | ((try simp only [Int32.lt_iff_toInt_lt, Int32.le_iff_toInt_le, ← Int32.toInt_inj, Int32.toInt_toInt64, ti_m14, ti_m13, ti_m12, ti_m11, ti_m10, ti_m9, ti_m6, ti_m5, ti_m4, ti_m3, ti_m2, ti_m1, ti_0, ti_1, ti_2, ti_3, ti_4, ti_5, ti_6, ti_7, ti_8, ti_9, ti_10, ti_11, ti_12, ti_19, ti_20, ti_21, ti_44, ti_45, ti_48, ti_57, ti_59, ti_60, ti_98, ti_99, ti_100, ti_101, ti_103, ti_108, ti_110, ti_114, ti_127]); omega)), ?_⟩
    intro v56 lg51 it52 hq
    obtain ⟨hI53, hK54⟩ := hq
    have hK55 : Kc (fun j => (55 ≤ j ∧ j < 450)) lg0 it0 lg51 it52 := kc_t hKr hK54 (fun j hj => by first | omega | exact False.elim hj | (dsimp only at hj ⊢; omega))
    subst hp
    exact ⟨hI53, hK55⟩
  · skip
    refine ⟨_, s_X0_work (in_rb_2) ((20 : Int32)) hI , ?_⟩
    intro lg58 it59 hq
    obtain ⟨hI60, hK61⟩ := hq
    have hK62 : Kc (fun j => (55 ≤ j ∧ j < 450)) lg0 it0 lg58 it59 := kc_t hKr hK61 (fun j hj => by first | omega | exact False.elim hj | (dsimp only at hj ⊢; omega))
    have f65 : 0 ≤ (it59 55 3).toInt ∧ (it59 55 3).toInt ≤ 20 := i8_0 hI60
    subst hp
    exact ⟨hI60, hK62⟩
  · skip
    refine ⟨_, s_X0_work (in_rb_2) ((20 : Int32)) hI , ?_⟩
    intro lg66 it67 hq
    obtain ⟨hI68, hK69⟩ := hq
    have hK70 : Kc (fun j => (55 ≤ j ∧ j < 450)) lg0 it0 lg66 it67 := kc_t hKr hK69 (fun j hj => by first | omega | exact False.elim hj | (dsimp only at hj ⊢; omega))
    subst hp
    exact ⟨hI68, hK70⟩
set_option maxRecDepth 100000 in
theorem s_X8_push (a1 : Int32) (a2 : Int32) {lg0 : LGt} {it0 : ITt} (hI : I8 lg0 it0) : w_X8_push a1 a2 (fun (v : Int64) (lg' : LGt) (it' : ITt) => (I8 lg' it' ∧ Kc (fun j => (486 ≤ j ∧ j < 489)) lg0 it0 lg' it'))  lg0 it0 := by
  have hb_a1 := And.intro a1.le_toInt a1.toInt_lt
  have hb_a2 := And.intro a2.le_toInt a2.toInt_lt
  have hKr : Kc (fun j => (486 ≤ j ∧ j < 489)) lg0 it0 lg0 it0 := kc_r
  generalize hp : (fun (v : Int64) (lg' : LGt) (it' : ITt) => (I8 lg' it' ∧ Kc (fun j => (486 ≤ j ∧ j < 489)) lg0 it0 lg' it')) = Pz
  unfold w_X8_push
  refine ⟨fun c1 => ?_, fun c1 => ?_⟩
  · try simp only [Int32.lt_iff_toInt_lt, Int32.le_iff_toInt_le, ← Int32.toInt_inj, Int32.toInt_toInt64, ti_m14, ti_m13, ti_m12, ti_m11, ti_m10, ti_m9, ti_m6, ti_m5, ti_m4, ti_m3, ti_m2, ti_m1, ti_0, ti_1, ti_2, ti_3, ti_4, ti_5, ti_6, ti_7, ti_8, ti_9, ti_10, ti_11, ti_12, ti_19, ti_20, ti_21, ti_44, ti_45, ti_48, ti_57, ti_59, ti_60, ti_98, ti_99, ti_100, ti_101, ti_103, ti_108, ti_110, ti_114, ti_127] at c1
    subst hp
    exact ⟨hI, hKr⟩
  · try simp only [Int32.lt_iff_toInt_lt, Int32.le_iff_toInt_le, ← Int32.toInt_inj, Int32.toInt_toInt64, ti_m14, ti_m13, ti_m12, ti_m11, ti_m10, ti_m9, ti_m6, ti_m5, ti_m4, ti_m3, ti_m2, ti_m1, ti_0, ti_1, ti_2, ti_3, ti_4, ti_5, ti_6, ti_7, ti_8, ti_9, ti_10, ti_11, ti_12, ti_19, ti_20, ti_21, ti_44, ti_45, ti_48, ti_57, ti_59, ti_60, ti_98, ti_99, ti_100, ti_101, ti_103, ti_108, ti_110, ti_114, ti_127] at c1
    refine ⟨fun c6 => ?_, fun c6 => ?_⟩
    · try simp only [Int32.lt_iff_toInt_lt, Int32.le_iff_toInt_le, ← Int32.toInt_inj, Int32.toInt_toInt64, ti_m14, ti_m13, ti_m12, ti_m11, ti_m10, ti_m9, ti_m6, ti_m5, ti_m4, ti_m3, ti_m2, ti_m1, ti_0, ti_1, ti_2, ti_3, ti_4, ti_5, ti_6, ti_7, ti_8, ti_9, ti_10, ti_11, ti_12, ti_19, ti_20, ti_21, ti_44, ti_45, ti_48, ti_57, ti_59, ti_60, ti_98, ti_99, ti_100, ti_101, ti_103, ti_108, ti_110, ti_114, ti_127] at c6
      subst hp
      exact ⟨hI, hKr⟩
    · try simp only [Int32.lt_iff_toInt_lt, Int32.le_iff_toInt_le, ← Int32.toInt_inj, Int32.toInt_toInt64, ti_m14, ti_m13, ti_m12, ti_m11, ti_m10, ti_m9, ti_m6, ti_m5, ti_m4, ti_m3, ti_m2, ti_m1, ti_0, ti_1, ti_2, ti_3, ti_4, ti_5, ti_6, ti_7, ti_8, ti_9, ti_10, ti_11, ti_12, ti_19, ti_20, ti_21, ti_44, ti_45, ti_48, ti_57, ti_59, ti_60, ti_98, ti_99, ti_100, ti_101, ti_103, ti_108, ti_110, ti_114, ti_127] at c6
      refine ⟨fun c13 => ?_, fun c13 => ?_⟩
      · try simp only [Int32.lt_iff_toInt_lt, Int32.le_iff_toInt_le, ← Int32.toInt_inj, Int32.toInt_toInt64, ti_m14, ti_m13, ti_m12, ti_m11, ti_m10, ti_m9, ti_m6, ti_m5, ti_m4, ti_m3, ti_m2, ti_m1, ti_0, ti_1, ti_2, ti_3, ti_4, ti_5, ti_6, ti_7, ti_8, ti_9, ti_10, ti_11, ti_12, ti_19, ti_20, ti_21, ti_44, ti_45, ti_48, ti_57, ti_59, ti_60, ti_98, ti_99, ti_100, ti_101, ti_103, ti_108, ti_110, ti_114, ti_127] at c13
        refine ⟨_, s_X8_addUp (in_rb_2) (a1) hI , ?_⟩
        intro lg14 it15 hq
        obtain ⟨hI16, hK17⟩ := hq
        have hK18 : Kc (fun j => (486 ≤ j ∧ j < 489)) lg0 it0 lg14 it15 := kc_t hKr hK17 (fun j hj => by first | omega | exact False.elim hj | (dsimp only at hj ⊢; omega))
        subst hp
        exact ⟨hI16, hK18⟩
      · try simp only [Int32.lt_iff_toInt_lt, Int32.le_iff_toInt_le, ← Int32.toInt_inj, Int32.toInt_toInt64, ti_m14, ti_m13, ti_m12, ti_m11, ti_m10, ti_m9, ti_m6, ti_m5, ti_m4, ti_m3, ti_m2, ti_m1, ti_0, ti_1, ti_2, ti_3, ti_4, ti_5, ti_6, ti_7, ti_8, ti_9, ti_10, ti_11, ti_12, ti_19, ti_20, ti_21, ti_44, ti_45, ti_48, ti_57, ti_59, ti_60, ti_98, ti_99, ti_100, ti_101, ti_103, ti_108, ti_110, ti_114, ti_127] at c13
        subst hp
        exact ⟨hI, hKr⟩
set_option maxRecDepth 100000 in
theorem s_X8_where (a1 : Int32) {lg0 : LGt} {it0 : ITt} (hI : I8 lg0 it0) : w_X8_where a1 (fun (v : Int32) (lg' : LGt) (it' : ITt) => (I8 lg' it' ∧ Kc (fun j => (55 ≤ j ∧ j < 450)) lg0 it0 lg' it'))  lg0 it0 := by
  have hb_a1 := And.intro a1.le_toInt a1.toInt_lt
  have hKr : Kc (fun j => (55 ≤ j ∧ j < 450)) lg0 it0 lg0 it0 := kc_r
  generalize hp : (fun (v : Int32) (lg' : LGt) (it' : ITt) => (I8 lg' it' ∧ Kc (fun j => (55 ≤ j ∧ j < 450)) lg0 it0 lg' it')) = Pz
  unfold w_X8_where
  refine ⟨fun c1 => ?_, fun c1 => ?_⟩
  · try simp only [Int32.lt_iff_toInt_lt, Int32.le_iff_toInt_le, ← Int32.toInt_inj, Int32.toInt_toInt64, ti_m14, ti_m13, ti_m12, ti_m11, ti_m10, ti_m9, ti_m6, ti_m5, ti_m4, ti_m3, ti_m2, ti_m1, ti_0, ti_1, ti_2, ti_3, ti_4, ti_5, ti_6, ti_7, ti_8, ti_9, ti_10, ti_11, ti_12, ti_19, ti_20, ti_21, ti_44, ti_45, ti_48, ti_57, ti_59, ti_60, ti_98, ti_99, ti_100, ti_101, ti_103, ti_108, ti_110, ti_114, ti_127] at c1
    refine ⟨_, s_X0_work (in_rb_2) ((20 : Int32)) hI , ?_⟩
    intro lg14 it15 hq
    obtain ⟨hI16, hK17⟩ := hq
    have hK18 : Kc (fun j => (55 ≤ j ∧ j < 450)) lg0 it0 lg14 it15 := kc_t hKr hK17 (fun j hj => by first | omega | exact False.elim hj | (dsimp only at hj ⊢; omega))
    have f21 : 0 ≤ (it15 55 3).toInt ∧ (it15 55 3).toInt ≤ 20 := i8_0 hI16
    refine ⟨fun c30 => ?_, fun c30 => ?_⟩
    · try simp only [Int32.lt_iff_toInt_lt, Int32.le_iff_toInt_le, ← Int32.toInt_inj, Int32.toInt_toInt64, ti_m14, ti_m13, ti_m12, ti_m11, ti_m10, ti_m9, ti_m6, ti_m5, ti_m4, ti_m3, ti_m2, ti_m1, ti_0, ti_1, ti_2, ti_3, ti_4, ti_5, ti_6, ti_7, ti_8, ti_9, ti_10, ti_11, ti_12, ti_19, ti_20, ti_21, ti_44, ti_45, ti_48, ti_57, ti_59, ti_60, ti_98, ti_99, ti_100, ti_101, ti_103, ti_108, ti_110, ti_114, ti_127] at c30
      subst hp
      exact ⟨hI16, hK18⟩
    · try simp only [Int32.lt_iff_toInt_lt, Int32.le_iff_toInt_le, ← Int32.toInt_inj, Int32.toInt_toInt64, ti_m14, ti_m13, ti_m12, ti_m11, ti_m10, ti_m9, ti_m6, ti_m5, ti_m4, ti_m3, ti_m2, ti_m1, ti_0, ti_1, ti_2, ti_3, ti_4, ti_5, ti_6, ti_7, ti_8, ti_9, ti_10, ti_11, ti_12, ti_19, ti_20, ti_21, ti_44, ti_45, ti_48, ti_57, ti_59, ti_60, ti_98, ti_99, ti_100, ti_101, ti_103, ti_108, ti_110, ti_114, ti_127] at c30
      have hi22 : vp_in a1 20 := vp_of (by first | omega | ((try simp only [Int32.lt_iff_toInt_lt, Int32.le_iff_toInt_le, ← Int32.toInt_inj, Int32.toInt_toInt64, ti_m14, ti_m13, ti_m12, ti_m11, ti_m10, ti_m9, ti_m6, ti_m5, ti_m4, ti_m3, ti_m2, ti_m1, ti_0, ti_1, ti_2, ti_3, ti_4, ti_5, ti_6, ti_7, ti_8, ti_9, ti_10, ti_11, ti_12, ti_19, ti_20, ti_21, ti_44, ti_45, ti_48, ti_57, ti_59, ti_60, ti_98, ti_99, ti_100, ti_101, ti_103, ti_108, ti_110, ti_114, ti_127]); omega) | (split <;> omega)) (by first | omega | ((try simp only [Int32.lt_iff_toInt_lt, Int32.le_iff_toInt_le, ← Int32.toInt_inj, Int32.toInt_toInt64, ti_m14, ti_m13, ti_m12, ti_m11, ti_m10, ti_m9, ti_m6, ti_m5, ti_m4, ti_m3, ti_m2, ti_m1, ti_0, ti_1, ti_2, ti_3, ti_4, ti_5, ti_6, ti_7, ti_8, ti_9, ti_10, ti_11, ti_12, ti_19, ti_20, ti_21, ti_44, ti_45, ti_48, ti_57, ti_59, ti_60, ti_98, ti_99, ti_100, ti_101, ti_103, ti_108, ti_110, ti_114, ti_127]); omega) | (split <;> omega))
      refine ⟨hi22, ?_⟩
      have hz23 := vlt hi22
      subst hp
      exact ⟨hI16, hK18⟩
  · try simp only [Int32.lt_iff_toInt_lt, Int32.le_iff_toInt_le, ← Int32.toInt_inj, Int32.toInt_toInt64, ti_m14, ti_m13, ti_m12, ti_m11, ti_m10, ti_m9, ti_m6, ti_m5, ti_m4, ti_m3, ti_m2, ti_m1, ti_0, ti_1, ti_2, ti_3, ti_4, ti_5, ti_6, ti_7, ti_8, ti_9, ti_10, ti_11, ti_12, ti_19, ti_20, ti_21, ti_44, ti_45, ti_48, ti_57, ti_59, ti_60, ti_98, ti_99, ti_100, ti_101, ti_103, ti_108, ti_110, ti_114, ti_127] at c1
    subst hp
    exact ⟨hI, hKr⟩
set_option maxRecDepth 100000 in
theorem s_X8_time (a1 : Int32) (a2 : Int32) {lg0 : LGt} {it0 : ITt} (hI : I8 lg0 it0) : w_X8_time a1 a2 (fun (v : Int64) (lg' : LGt) (it' : ITt) => (I8 lg' it' ∧ Kc (fun j => (55 ≤ j ∧ j < 450)) lg0 it0 lg' it'))  lg0 it0 := by
  have hb_a1 := And.intro a1.le_toInt a1.toInt_lt
  have hb_a2 := And.intro a2.le_toInt a2.toInt_lt
  have hKr : Kc (fun j => (55 ≤ j ∧ j < 450)) lg0 it0 lg0 it0 := kc_r
  generalize hp : (fun (v : Int64) (lg' : LGt) (it' : ITt) => (I8 lg' it' ∧ Kc (fun j => (55 ≤ j ∧ j < 450)) lg0 it0 lg' it')) = Pz
  unfold w_X8_time
  refine ⟨_, s_X0_work (in_rb_2) ((20 : Int32)) hI , ?_⟩
  intro lg16 it17 hq
  obtain ⟨hI18, hK19⟩ := hq
  have hK20 : Kc (fun j => (55 ≤ j ∧ j < 450)) lg0 it0 lg16 it17 := kc_t hKr hK19 (fun j hj => by first | omega | exact False.elim hj | (dsimp only at hj ⊢; omega))
  refine ⟨fun c17 => ?_, fun c17 => ?_⟩
  · try simp only [Int32.lt_iff_toInt_lt, Int32.le_iff_toInt_le, ← Int32.toInt_inj, Int32.toInt_toInt64, ti_m14, ti_m13, ti_m12, ti_m11, ti_m10, ti_m9, ti_m6, ti_m5, ti_m4, ti_m3, ti_m2, ti_m1, ti_0, ti_1, ti_2, ti_3, ti_4, ti_5, ti_6, ti_7, ti_8, ti_9, ti_10, ti_11, ti_12, ti_19, ti_20, ti_21, ti_44, ti_45, ti_48, ti_57, ti_59, ti_60, ti_98, ti_99, ti_100, ti_101, ti_103, ti_108, ti_110, ti_114, ti_127] at c17
    subst hp
    exact ⟨hI18, hK20⟩
  · try simp only [Int32.lt_iff_toInt_lt, Int32.le_iff_toInt_le, ← Int32.toInt_inj, Int32.toInt_toInt64, ti_m14, ti_m13, ti_m12, ti_m11, ti_m10, ti_m9, ti_m6, ti_m5, ti_m4, ti_m3, ti_m2, ti_m1, ti_0, ti_1, ti_2, ti_3, ti_4, ti_5, ti_6, ti_7, ti_8, ti_9, ti_10, ti_11, ti_12, ti_19, ti_20, ti_21, ti_44, ti_45, ti_48, ti_57, ti_59, ti_60, ti_98, ti_99, ti_100, ti_101, ti_103, ti_108, ti_110, ti_114, ti_127] at c17
    have f23 : 0 ≤ (it17 55 3).toInt ∧ (it17 55 3).toInt ≤ 20 := i8_0 hI18
    refine ⟨fun c28 => ?_, fun c28 => ?_⟩
    · try simp only [Int32.lt_iff_toInt_lt, Int32.le_iff_toInt_le, ← Int32.toInt_inj, Int32.toInt_toInt64, ti_m14, ti_m13, ti_m12, ti_m11, ti_m10, ti_m9, ti_m6, ti_m5, ti_m4, ti_m3, ti_m2, ti_m1, ti_0, ti_1, ti_2, ti_3, ti_4, ti_5, ti_6, ti_7, ti_8, ti_9, ti_10, ti_11, ti_12, ti_19, ti_20, ti_21, ti_44, ti_45, ti_48, ti_57, ti_59, ti_60, ti_98, ti_99, ti_100, ti_101, ti_103, ti_108, ti_110, ti_114, ti_127] at c28
      subst hp
      exact ⟨hI18, hK20⟩
    · try simp only [Int32.lt_iff_toInt_lt, Int32.le_iff_toInt_le, ← Int32.toInt_inj, Int32.toInt_toInt64, ti_m14, ti_m13, ti_m12, ti_m11, ti_m10, ti_m9, ti_m6, ti_m5, ti_m4, ti_m3, ti_m2, ti_m1, ti_0, ti_1, ti_2, ti_3, ti_4, ti_5, ti_6, ti_7, ti_8, ti_9, ti_10, ti_11, ti_12, ti_19, ti_20, ti_21, ti_44, ti_45, ti_48, ti_57, ti_59, ti_60, ti_98, ti_99, ti_100, ti_101, ti_103, ti_108, ti_110, ti_114, ti_127] at c28
      refine ⟨fun c35 => ?_, fun c35 => ?_⟩
      · try simp only [Int32.lt_iff_toInt_lt, Int32.le_iff_toInt_le, ← Int32.toInt_inj, Int32.toInt_toInt64, ti_m14, ti_m13, ti_m12, ti_m11, ti_m10, ti_m9, ti_m6, ti_m5, ti_m4, ti_m3, ti_m2, ti_m1, ti_0, ti_1, ti_2, ti_3, ti_4, ti_5, ti_6, ti_7, ti_8, ti_9, ti_10, ti_11, ti_12, ti_19, ti_20, ti_21, ti_44, ti_45, ti_48, ti_57, ti_59, ti_60, ti_98, ti_99, ti_100, ti_101, ti_103, ti_108, ti_110, ti_114, ti_127] at c35
        try have f24 : ((a1 + 1) : Int32).toInt = (a1).toInt + 1 := ad32 (a := (a1).toInt) (b := 1) (rfl) (ti_1) (by omega) (by omega)
        have hi25 : vp_in (a1 + 1) 21 := vp_of (by first | omega | ((try simp only [Int32.lt_iff_toInt_lt, Int32.le_iff_toInt_le, ← Int32.toInt_inj, Int32.toInt_toInt64, ti_m14, ti_m13, ti_m12, ti_m11, ti_m10, ti_m9, ti_m6, ti_m5, ti_m4, ti_m3, ti_m2, ti_m1, ti_0, ti_1, ti_2, ti_3, ti_4, ti_5, ti_6, ti_7, ti_8, ti_9, ti_10, ti_11, ti_12, ti_19, ti_20, ti_21, ti_44, ti_45, ti_48, ti_57, ti_59, ti_60, ti_98, ti_99, ti_100, ti_101, ti_103, ti_108, ti_110, ti_114, ti_127]); omega) | (split <;> omega)) (by first | omega | ((try simp only [Int32.lt_iff_toInt_lt, Int32.le_iff_toInt_le, ← Int32.toInt_inj, Int32.toInt_toInt64, ti_m14, ti_m13, ti_m12, ti_m11, ti_m10, ti_m9, ti_m6, ti_m5, ti_m4, ti_m3, ti_m2, ti_m1, ti_0, ti_1, ti_2, ti_3, ti_4, ti_5, ti_6, ti_7, ti_8, ti_9, ti_10, ti_11, ti_12, ti_19, ti_20, ti_21, ti_44, ti_45, ti_48, ti_57, ti_59, ti_60, ti_98, ti_99, ti_100, ti_101, ti_103, ti_108, ti_110, ti_114, ti_127]); omega) | (split <;> omega))
        refine ⟨hi25, ?_⟩
        have hz26 := vlt hi25
        subst hp
        exact ⟨hI18, hK20⟩
      · try simp only [Int32.lt_iff_toInt_lt, Int32.le_iff_toInt_le, ← Int32.toInt_inj, Int32.toInt_toInt64, ti_m14, ti_m13, ti_m12, ti_m11, ti_m10, ti_m9, ti_m6, ti_m5, ti_m4, ti_m3, ti_m2, ti_m1, ti_0, ti_1, ti_2, ti_3, ti_4, ti_5, ti_6, ti_7, ti_8, ti_9, ti_10, ti_11, ti_12, ti_19, ti_20, ti_21, ti_44, ti_45, ti_48, ti_57, ti_59, ti_60, ti_98, ti_99, ti_100, ti_101, ti_103, ti_108, ti_110, ti_114, ti_127] at c35
        subst hp
        exact ⟨hI18, hK20⟩
set_option maxRecDepth 100000 in
theorem s_X8_behind (a1 : Int32) (a2 : Int32) (a3 : Int32) (a4 : Int32) {lg0 : LGt} {it0 : ITt} (hI : I8 lg0 it0) : w_X8_behind a1 a2 a3 a4 (fun (v : Int64) (lg' : LGt) (it' : ITt) => (I8 lg' it' ∧ Kc (fun j => (55 ≤ j ∧ j < 450)) lg0 it0 lg' it'))  lg0 it0 := by
  have hb_a1 := And.intro a1.le_toInt a1.toInt_lt
  have hb_a2 := And.intro a2.le_toInt a2.toInt_lt
  have hb_a3 := And.intro a3.le_toInt a3.toInt_lt
  have hb_a4 := And.intro a4.le_toInt a4.toInt_lt
  have hKr : Kc (fun j => (55 ≤ j ∧ j < 450)) lg0 it0 lg0 it0 := kc_r
  generalize hp : (fun (v : Int64) (lg' : LGt) (it' : ITt) => (I8 lg' it' ∧ Kc (fun j => (55 ≤ j ∧ j < 450)) lg0 it0 lg' it')) = Pz
  unfold w_X8_behind
  refine ⟨_, s_X0_work (in_rb_2) ((20 : Int32)) hI , ?_⟩
  intro lg27 it28 hq
  obtain ⟨hI29, hK30⟩ := hq
  have hK31 : Kc (fun j => (55 ≤ j ∧ j < 450)) lg0 it0 lg27 it28 := kc_t hKr hK30 (fun j hj => by first | omega | exact False.elim hj | (dsimp only at hj ⊢; omega))
  have f34 : 0 ≤ (it28 2 0).toInt ∧ (it28 2 0).toInt ≤ 6 := i8_3 hI29 oq_2
  refine ⟨fun c21 => ?_, fun c21 => ?_⟩
  · try simp only [Int32.lt_iff_toInt_lt, Int32.le_iff_toInt_le, ← Int32.toInt_inj, Int32.toInt_toInt64, ti_m14, ti_m13, ti_m12, ti_m11, ti_m10, ti_m9, ti_m6, ti_m5, ti_m4, ti_m3, ti_m2, ti_m1, ti_0, ti_1, ti_2, ti_3, ti_4, ti_5, ti_6, ti_7, ti_8, ti_9, ti_10, ti_11, ti_12, ti_19, ti_20, ti_21, ti_44, ti_45, ti_48, ti_57, ti_59, ti_60, ti_98, ti_99, ti_100, ti_101, ti_103, ti_108, ti_110, ti_114, ti_127] at c21
    subst hp
    exact ⟨hI29, hK31⟩
  · try simp only [Int32.lt_iff_toInt_lt, Int32.le_iff_toInt_le, ← Int32.toInt_inj, Int32.toInt_toInt64, ti_m14, ti_m13, ti_m12, ti_m11, ti_m10, ti_m9, ti_m6, ti_m5, ti_m4, ti_m3, ti_m2, ti_m1, ti_0, ti_1, ti_2, ti_3, ti_4, ti_5, ti_6, ti_7, ti_8, ti_9, ti_10, ti_11, ti_12, ti_19, ti_20, ti_21, ti_44, ti_45, ti_48, ti_57, ti_59, ti_60, ti_98, ti_99, ti_100, ti_101, ti_103, ti_108, ti_110, ti_114, ti_127] at c21
    refine ⟨fun c26 => ?_, fun c26 => ?_⟩
    · try simp only [Int32.lt_iff_toInt_lt, Int32.le_iff_toInt_le, ← Int32.toInt_inj, Int32.toInt_toInt64, ti_m14, ti_m13, ti_m12, ti_m11, ti_m10, ti_m9, ti_m6, ti_m5, ti_m4, ti_m3, ti_m2, ti_m1, ti_0, ti_1, ti_2, ti_3, ti_4, ti_5, ti_6, ti_7, ti_8, ti_9, ti_10, ti_11, ti_12, ti_19, ti_20, ti_21, ti_44, ti_45, ti_48, ti_57, ti_59, ti_60, ti_98, ti_99, ti_100, ti_101, ti_103, ti_108, ti_110, ti_114, ti_127] at c26
      subst hp
      exact ⟨hI29, hK31⟩
    · try simp only [Int32.lt_iff_toInt_lt, Int32.le_iff_toInt_le, ← Int32.toInt_inj, Int32.toInt_toInt64, ti_m14, ti_m13, ti_m12, ti_m11, ti_m10, ti_m9, ti_m6, ti_m5, ti_m4, ti_m3, ti_m2, ti_m1, ti_0, ti_1, ti_2, ti_3, ti_4, ti_5, ti_6, ti_7, ti_8, ti_9, ti_10, ti_11, ti_12, ti_19, ti_20, ti_21, ti_44, ti_45, ti_48, ti_57, ti_59, ti_60, ti_98, ti_99, ti_100, ti_101, ti_103, ti_108, ti_110, ti_114, ti_127] at c26
      have f35 : 0 ≤ (it28 55 3).toInt ∧ (it28 55 3).toInt ≤ 20 := i8_0 hI29
      refine ⟨fun c37 => ?_, fun c37 => ?_⟩
      · try simp only [Int32.lt_iff_toInt_lt, Int32.le_iff_toInt_le, ← Int32.toInt_inj, Int32.toInt_toInt64, ti_m14, ti_m13, ti_m12, ti_m11, ti_m10, ti_m9, ti_m6, ti_m5, ti_m4, ti_m3, ti_m2, ti_m1, ti_0, ti_1, ti_2, ti_3, ti_4, ti_5, ti_6, ti_7, ti_8, ti_9, ti_10, ti_11, ti_12, ti_19, ti_20, ti_21, ti_44, ti_45, ti_48, ti_57, ti_59, ti_60, ti_98, ti_99, ti_100, ti_101, ti_103, ti_108, ti_110, ti_114, ti_127] at c37
        subst hp
        exact ⟨hI29, hK31⟩
      · try simp only [Int32.lt_iff_toInt_lt, Int32.le_iff_toInt_le, ← Int32.toInt_inj, Int32.toInt_toInt64, ti_m14, ti_m13, ti_m12, ti_m11, ti_m10, ti_m9, ti_m6, ti_m5, ti_m4, ti_m3, ti_m2, ti_m1, ti_0, ti_1, ti_2, ti_3, ti_4, ti_5, ti_6, ti_7, ti_8, ti_9, ti_10, ti_11, ti_12, ti_19, ti_20, ti_21, ti_44, ti_45, ti_48, ti_57, ti_59, ti_60, ti_98, ti_99, ti_100, ti_101, ti_103, ti_108, ti_110, ti_114, ti_127] at c37
        refine ⟨fun c41 => ?_, fun c41 => ?_⟩
        · try simp only [Int32.lt_iff_toInt_lt, Int32.le_iff_toInt_le, ← Int32.toInt_inj, Int32.toInt_toInt64, ti_m14, ti_m13, ti_m12, ti_m11, ti_m10, ti_m9, ti_m6, ti_m5, ti_m4, ti_m3, ti_m2, ti_m1, ti_0, ti_1, ti_2, ti_3, ti_4, ti_5, ti_6, ti_7, ti_8, ti_9, ti_10, ti_11, ti_12, ti_19, ti_20, ti_21, ti_44, ti_45, ti_48, ti_57, ti_59, ti_60, ti_98, ti_99, ti_100, ti_101, ti_103, ti_108, ti_110, ti_114, ti_127] at c41
          subst hp
          exact ⟨hI29, hK31⟩
        · try simp only [Int32.lt_iff_toInt_lt, Int32.le_iff_toInt_le, ← Int32.toInt_inj, Int32.toInt_toInt64, ti_m14, ti_m13, ti_m12, ti_m11, ti_m10, ti_m9, ti_m6, ti_m5, ti_m4, ti_m3, ti_m2, ti_m1, ti_0, ti_1, ti_2, ti_3, ti_4, ti_5, ti_6, ti_7, ti_8, ti_9, ti_10, ti_11, ti_12, ti_19, ti_20, ti_21, ti_44, ti_45, ti_48, ti_57, ti_59, ti_60, ti_98, ti_99, ti_100, ti_101, ti_103, ti_108, ti_110, ti_114, ti_127] at c41
          refine ⟨fun c46 => ?_, fun c46 => ?_⟩
          · try simp only [Int32.lt_iff_toInt_lt, Int32.le_iff_toInt_le, ← Int32.toInt_inj, Int32.toInt_toInt64, ti_m14, ti_m13, ti_m12, ti_m11, ti_m10, ti_m9, ti_m6, ti_m5, ti_m4, ti_m3, ti_m2, ti_m1, ti_0, ti_1, ti_2, ti_3, ti_4, ti_5, ti_6, ti_7, ti_8, ti_9, ti_10, ti_11, ti_12, ti_19, ti_20, ti_21, ti_44, ti_45, ti_48, ti_57, ti_59, ti_60, ti_98, ti_99, ti_100, ti_101, ti_103, ti_108, ti_110, ti_114, ti_127] at c46
            subst hp
            exact ⟨hI29, hK31⟩
          · try simp only [Int32.lt_iff_toInt_lt, Int32.le_iff_toInt_le, ← Int32.toInt_inj, Int32.toInt_toInt64, ti_m14, ti_m13, ti_m12, ti_m11, ti_m10, ti_m9, ti_m6, ti_m5, ti_m4, ti_m3, ti_m2, ti_m1, ti_0, ti_1, ti_2, ti_3, ti_4, ti_5, ti_6, ti_7, ti_8, ti_9, ti_10, ti_11, ti_12, ti_19, ti_20, ti_21, ti_44, ti_45, ti_48, ti_57, ti_59, ti_60, ti_98, ti_99, ti_100, ti_101, ti_103, ti_108, ti_110, ti_114, ti_127] at c46
            refine ⟨fun c54 => ?_, fun c54 => ?_⟩
            · try simp only [Int32.lt_iff_toInt_lt, Int32.le_iff_toInt_le, ← Int32.toInt_inj, Int32.toInt_toInt64, ti_m14, ti_m13, ti_m12, ti_m11, ti_m10, ti_m9, ti_m6, ti_m5, ti_m4, ti_m3, ti_m2, ti_m1, ti_0, ti_1, ti_2, ti_3, ti_4, ti_5, ti_6, ti_7, ti_8, ti_9, ti_10, ti_11, ti_12, ti_19, ti_20, ti_21, ti_44, ti_45, ti_48, ti_57, ti_59, ti_60, ti_98, ti_99, ti_100, ti_101, ti_103, ti_108, ti_110, ti_114, ti_127] at c54
              refine ⟨fun c63 => ?_, fun c63 => ?_⟩
              · try simp only [Int32.lt_iff_toInt_lt, Int32.le_iff_toInt_le, ← Int32.toInt_inj, Int32.toInt_toInt64, ti_m14, ti_m13, ti_m12, ti_m11, ti_m10, ti_m9, ti_m6, ti_m5, ti_m4, ti_m3, ti_m2, ti_m1, ti_0, ti_1, ti_2, ti_3, ti_4, ti_5, ti_6, ti_7, ti_8, ti_9, ti_10, ti_11, ti_12, ti_19, ti_20, ti_21, ti_44, ti_45, ti_48, ti_57, ti_59, ti_60, ti_98, ti_99, ti_100, ti_101, ti_103, ti_108, ti_110, ti_114, ti_127] at c63
                try have f36 : ((a2 + 1) : Int32).toInt = (a2).toInt + 1 := ad32 (a := (a2).toInt) (b := 1) (rfl) (ti_1) (by omega) (by omega)
                unfold w_X8_behind_b79
                have hi37 : vp_in (a2 + 1) 21 := vp_of (by first | omega | ((try simp only [Int32.lt_iff_toInt_lt, Int32.le_iff_toInt_le, ← Int32.toInt_inj, Int32.toInt_toInt64, ti_m14, ti_m13, ti_m12, ti_m11, ti_m10, ti_m9, ti_m6, ti_m5, ti_m4, ti_m3, ti_m2, ti_m1, ti_0, ti_1, ti_2, ti_3, ti_4, ti_5, ti_6, ti_7, ti_8, ti_9, ti_10, ti_11, ti_12, ti_19, ti_20, ti_21, ti_44, ti_45, ti_48, ti_57, ti_59, ti_60, ti_98, ti_99, ti_100, ti_101, ti_103, ti_108, ti_110, ti_114, ti_127]); omega) | (split <;> omega)) (by first | omega | ((try simp only [Int32.lt_iff_toInt_lt, Int32.le_iff_toInt_le, ← Int32.toInt_inj, Int32.toInt_toInt64, ti_m14, ti_m13, ti_m12, ti_m11, ti_m10, ti_m9, ti_m6, ti_m5, ti_m4, ti_m3, ti_m2, ti_m1, ti_0, ti_1, ti_2, ti_3, ti_4, ti_5, ti_6, ti_7, ti_8, ti_9, ti_10, ti_11, ti_12, ti_19, ti_20, ti_21, ti_44, ti_45, ti_48, ti_57, ti_59, ti_60, ti_98, ti_99, ti_100, ti_101, ti_103, ti_108, ti_110, ti_114, ti_127]); omega) | (split <;> omega))
                refine ⟨hi37, ?_⟩
                have hz38 := vlt hi37
                have hc39 : vp_in a1 6 := vp_of (by first | omega | ((try simp only [Int32.lt_iff_toInt_lt, Int32.le_iff_toInt_le, ← Int32.toInt_inj, Int32.toInt_toInt64, ti_m14, ti_m13, ti_m12, ti_m11, ti_m10, ti_m9, ti_m6, ti_m5, ti_m4, ti_m3, ti_m2, ti_m1, ti_0, ti_1, ti_2, ti_3, ti_4, ti_5, ti_6, ti_7, ti_8, ti_9, ti_10, ti_11, ti_12, ti_19, ti_20, ti_21, ti_44, ti_45, ti_48, ti_57, ti_59, ti_60, ti_98, ti_99, ti_100, ti_101, ti_103, ti_108, ti_110, ti_114, ti_127]); omega) | (split <;> omega)) (by first | omega | ((try simp only [Int32.lt_iff_toInt_lt, Int32.le_iff_toInt_le, ← Int32.toInt_inj, Int32.toInt_toInt64, ti_m14, ti_m13, ti_m12, ti_m11, ti_m10, ti_m9, ti_m6, ti_m5, ti_m4, ti_m3, ti_m2, ti_m1, ti_0, ti_1, ti_2, ti_3, ti_4, ti_5, ti_6, ti_7, ti_8, ti_9, ti_10, ti_11, ti_12, ti_19, ti_20, ti_21, ti_44, ti_45, ti_48, ti_57, ti_59, ti_60, ti_98, ti_99, ti_100, ti_101, ti_103, ti_108, ti_110, ti_114, ti_127]); omega) | (split <;> omega))
                refine ⟨hc39, ?_⟩
                have hz40 := vlt hc39
                subst hp
                exact ⟨hI29, hK31⟩
              · try simp only [Int32.lt_iff_toInt_lt, Int32.le_iff_toInt_le, ← Int32.toInt_inj, Int32.toInt_toInt64, ti_m14, ti_m13, ti_m12, ti_m11, ti_m10, ti_m9, ti_m6, ti_m5, ti_m4, ti_m3, ti_m2, ti_m1, ti_0, ti_1, ti_2, ti_3, ti_4, ti_5, ti_6, ti_7, ti_8, ti_9, ti_10, ti_11, ti_12, ti_19, ti_20, ti_21, ti_44, ti_45, ti_48, ti_57, ti_59, ti_60, ti_98, ti_99, ti_100, ti_101, ti_103, ti_108, ti_110, ti_114, ti_127] at c63
                unfold w_X8_behind_b79
                have hi41 : vp_in (it28 55 3) 21 := vp_of (by first | omega | ((try simp only [Int32.lt_iff_toInt_lt, Int32.le_iff_toInt_le, ← Int32.toInt_inj, Int32.toInt_toInt64, ti_m14, ti_m13, ti_m12, ti_m11, ti_m10, ti_m9, ti_m6, ti_m5, ti_m4, ti_m3, ti_m2, ti_m1, ti_0, ti_1, ti_2, ti_3, ti_4, ti_5, ti_6, ti_7, ti_8, ti_9, ti_10, ti_11, ti_12, ti_19, ti_20, ti_21, ti_44, ti_45, ti_48, ti_57, ti_59, ti_60, ti_98, ti_99, ti_100, ti_101, ti_103, ti_108, ti_110, ti_114, ti_127]); omega) | (split <;> omega)) (by first | omega | ((try simp only [Int32.lt_iff_toInt_lt, Int32.le_iff_toInt_le, ← Int32.toInt_inj, Int32.toInt_toInt64, ti_m14, ti_m13, ti_m12, ti_m11, ti_m10, ti_m9, ti_m6, ti_m5, ti_m4, ti_m3, ti_m2, ti_m1, ti_0, ti_1, ti_2, ti_3, ti_4, ti_5, ti_6, ti_7, ti_8, ti_9, ti_10, ti_11, ti_12, ti_19, ti_20, ti_21, ti_44, ti_45, ti_48, ti_57, ti_59, ti_60, ti_98, ti_99, ti_100, ti_101, ti_103, ti_108, ti_110, ti_114, ti_127]); omega) | (split <;> omega))
                refine ⟨hi41, ?_⟩
                have hz42 := vlt hi41
                have hc43 : vp_in a1 6 := vp_of (by first | omega | ((try simp only [Int32.lt_iff_toInt_lt, Int32.le_iff_toInt_le, ← Int32.toInt_inj, Int32.toInt_toInt64, ti_m14, ti_m13, ti_m12, ti_m11, ti_m10, ti_m9, ti_m6, ti_m5, ti_m4, ti_m3, ti_m2, ti_m1, ti_0, ti_1, ti_2, ti_3, ti_4, ti_5, ti_6, ti_7, ti_8, ti_9, ti_10, ti_11, ti_12, ti_19, ti_20, ti_21, ti_44, ti_45, ti_48, ti_57, ti_59, ti_60, ti_98, ti_99, ti_100, ti_101, ti_103, ti_108, ti_110, ti_114, ti_127]); omega) | (split <;> omega)) (by first | omega | ((try simp only [Int32.lt_iff_toInt_lt, Int32.le_iff_toInt_le, ← Int32.toInt_inj, Int32.toInt_toInt64, ti_m14, ti_m13, ti_m12, ti_m11, ti_m10, ti_m9, ti_m6, ti_m5, ti_m4, ti_m3, ti_m2, ti_m1, ti_0, ti_1, ti_2, ti_3, ti_4, ti_5, ti_6, ti_7, ti_8, ti_9, ti_10, ti_11, ti_12, ti_19, ti_20, ti_21, ti_44, ti_45, ti_48, ti_57, ti_59, ti_60, ti_98, ti_99, ti_100, ti_101, ti_103, ti_108, ti_110, ti_114, ti_127]); omega) | (split <;> omega))
                refine ⟨hc43, ?_⟩
                have hz44 := vlt hc43
                subst hp
                exact ⟨hI29, hK31⟩
            · try simp only [Int32.lt_iff_toInt_lt, Int32.le_iff_toInt_le, ← Int32.toInt_inj, Int32.toInt_toInt64, ti_m14, ti_m13, ti_m12, ti_m11, ti_m10, ti_m9, ti_m6, ti_m5, ti_m4, ti_m3, ti_m2, ti_m1, ti_0, ti_1, ti_2, ti_3, ti_4, ti_5, ti_6, ti_7, ti_8, ti_9, ti_10, ti_11, ti_12, ti_19, ti_20, ti_21, ti_44, ti_45, ti_48, ti_57, ti_59, ti_60, ti_98, ti_99, ti_100, ti_101, ti_103, ti_108, ti_110, ti_114, ti_127] at c54
              subst hp
              exact ⟨hI29, hK31⟩
set_option maxRecDepth 100000 in
theorem s_X8_then (a1 : Int32) (a2 : Int32) {lg0 : LGt} {it0 : ITt} (hI : I8 lg0 it0) : w_X8_then a1 a2 (fun (v : Int64) (lg' : LGt) (it' : ITt) => (I8 lg' it' ∧ Kc (fun j => (55 ≤ j ∧ j < 450) ∨ (486 ≤ j ∧ j < 489)) lg0 it0 lg' it'))  lg0 it0 := by
  have hb_a1 := And.intro a1.le_toInt a1.toInt_lt
  have hb_a2 := And.intro a2.le_toInt a2.toInt_lt
  have hKr : Kc (fun j => (55 ≤ j ∧ j < 450) ∨ (486 ≤ j ∧ j < 489)) lg0 it0 lg0 it0 := kc_r
  generalize hp : (fun (v : Int64) (lg' : LGt) (it' : ITt) => (I8 lg' it' ∧ Kc (fun j => (55 ≤ j ∧ j < 450) ∨ (486 ≤ j ∧ j < 489)) lg0 it0 lg' it')) = Pz
  unfold w_X8_then
  refine ⟨fun c1 => ?_, fun c1 => ?_⟩
  · try simp only [Int32.lt_iff_toInt_lt, Int32.le_iff_toInt_le, ← Int32.toInt_inj, Int32.toInt_toInt64, ti_m14, ti_m13, ti_m12, ti_m11, ti_m10, ti_m9, ti_m6, ti_m5, ti_m4, ti_m3, ti_m2, ti_m1, ti_0, ti_1, ti_2, ti_3, ti_4, ti_5, ti_6, ti_7, ti_8, ti_9, ti_10, ti_11, ti_12, ti_19, ti_20, ti_21, ti_44, ti_45, ti_48, ti_57, ti_59, ti_60, ti_98, ti_99, ti_100, ti_101, ti_103, ti_108, ti_110, ti_114, ti_127] at c1
    subst hp
    exact ⟨hI, hKr⟩
  · try simp only [Int32.lt_iff_toInt_lt, Int32.le_iff_toInt_le, ← Int32.toInt_inj, Int32.toInt_toInt64, ti_m14, ti_m13, ti_m12, ti_m11, ti_m10, ti_m9, ti_m6, ti_m5, ti_m4, ti_m3, ti_m2, ti_m1, ti_0, ti_1, ti_2, ti_3, ti_4, ti_5, ti_6, ti_7, ti_8, ti_9, ti_10, ti_11, ti_12, ti_19, ti_20, ti_21, ti_44, ti_45, ti_48, ti_57, ti_59, ti_60, ti_98, ti_99, ti_100, ti_101, ti_103, ti_108, ti_110, ti_114, ti_127] at c1
    refine ⟨fun c6 => ?_, fun c6 => ?_⟩
    · try simp only [Int32.lt_iff_toInt_lt, Int32.le_iff_toInt_le, ← Int32.toInt_inj, Int32.toInt_toInt64, ti_m14, ti_m13, ti_m12, ti_m11, ti_m10, ti_m9, ti_m6, ti_m5, ti_m4, ti_m3, ti_m2, ti_m1, ti_0, ti_1, ti_2, ti_3, ti_4, ti_5, ti_6, ti_7, ti_8, ti_9, ti_10, ti_11, ti_12, ti_19, ti_20, ti_21, ti_44, ti_45, ti_48, ti_57, ti_59, ti_60, ti_98, ti_99, ti_100, ti_101, ti_103, ti_108, ti_110, ti_114, ti_127] at c6
      subst hp
      exact ⟨hI, hKr⟩
    · try simp only [Int32.lt_iff_toInt_lt, Int32.le_iff_toInt_le, ← Int32.toInt_inj, Int32.toInt_toInt64, ti_m14, ti_m13, ti_m12, ti_m11, ti_m10, ti_m9, ti_m6, ti_m5, ti_m4, ti_m3, ti_m2, ti_m1, ti_0, ti_1, ti_2, ti_3, ti_4, ti_5, ti_6, ti_7, ti_8, ti_9, ti_10, ti_11, ti_12, ti_19, ti_20, ti_21, ti_44, ti_45, ti_48, ti_57, ti_59, ti_60, ti_98, ti_99, ti_100, ti_101, ti_103, ti_108, ti_110, ti_114, ti_127] at c6
      refine ⟨fun c13 => ?_, fun c13 => ?_⟩
      · try simp only [Int32.lt_iff_toInt_lt, Int32.le_iff_toInt_le, ← Int32.toInt_inj, Int32.toInt_toInt64, ti_m14, ti_m13, ti_m12, ti_m11, ti_m10, ti_m9, ti_m6, ti_m5, ti_m4, ti_m3, ti_m2, ti_m1, ti_0, ti_1, ti_2, ti_3, ti_4, ti_5, ti_6, ti_7, ti_8, ti_9, ti_10, ti_11, ti_12, ti_19, ti_20, ti_21, ti_44, ti_45, ti_48, ti_57, ti_59, ti_60, ti_98, ti_99, ti_100, ti_101, ti_103, ti_108, ti_110, ti_114, ti_127] at c13
        refine ⟨_, s_X0_work (in_rb_2) ((20 : Int32)) hI , ?_⟩
        intro lg23 it24 hq
        obtain ⟨hI25, hK26⟩ := hq
        have hK27 : Kc (fun j => (55 ≤ j ∧ j < 450) ∨ (486 ≤ j ∧ j < 489)) lg0 it0 lg23 it24 := kc_t hKr hK26 (fun j hj => by first | omega | exact False.elim hj | (dsimp only at hj ⊢; omega))
        have f30 : 0 ≤ (it24 55 3).toInt ∧ (it24 55 3).toInt ≤ 20 := i8_0 hI25
        have hi31 : vp_in (it24 55 3) 21 := vp_of (by first | omega | ((try simp only [Int32.lt_iff_toInt_lt, Int32.le_iff_toInt_le, ← Int32.toInt_inj, Int32.toInt_toInt64, ti_m14, ti_m13, ti_m12, ti_m11, ti_m10, ti_m9, ti_m6, ti_m5, ti_m4, ti_m3, ti_m2, ti_m1, ti_0, ti_1, ti_2, ti_3, ti_4, ti_5, ti_6, ti_7, ti_8, ti_9, ti_10, ti_11, ti_12, ti_19, ti_20, ti_21, ti_44, ti_45, ti_48, ti_57, ti_59, ti_60, ti_98, ti_99, ti_100, ti_101, ti_103, ti_108, ti_110, ti_114, ti_127]); omega) | (split <;> omega)) (by first | omega | ((try simp only [Int32.lt_iff_toInt_lt, Int32.le_iff_toInt_le, ← Int32.toInt_inj, Int32.toInt_toInt64, ti_m14, ti_m13, ti_m12, ti_m11, ti_m10, ti_m9, ti_m6, ti_m5, ti_m4, ti_m3, ti_m2, ti_m1, ti_0, ti_1, ti_2, ti_3, ti_4, ti_5, ti_6, ti_7, ti_8, ti_9, ti_10, ti_11, ti_12, ti_19, ti_20, ti_21, ti_44, ti_45, ti_48, ti_57, ti_59, ti_60, ti_98, ti_99, ti_100, ti_101, ti_103, ti_108, ti_110, ti_114, ti_127]); omega) | (split <;> omega))
        refine ⟨hi31, ?_⟩
        have hz32 := vlt hi31
        refine ⟨_, s_X8_addUp ((rst (vlt (hi31)))) (a1) hI25 , ?_⟩
        intro lg33 it34 hq
        obtain ⟨hI35, hK36⟩ := hq
        have hK37 : Kc (fun j => (55 ≤ j ∧ j < 450) ∨ (486 ≤ j ∧ j < 489)) lg0 it0 lg33 it34 := kc_t hK27 hK36 (fun j hj => by first | omega | exact False.elim hj | (dsimp only at hj ⊢; omega))
        try have e40 : (it34 55 3).toInt = (it24 55 3).toInt := congrArg (fun f => Int32.toInt (f 3)) (hK36 55 (by first | omega | (dsimp only; omega))).2
        subst hp
        exact ⟨hI35, hK37⟩
      · try simp only [Int32.lt_iff_toInt_lt, Int32.le_iff_toInt_le, ← Int32.toInt_inj, Int32.toInt_toInt64, ti_m14, ti_m13, ti_m12, ti_m11, ti_m10, ti_m9, ti_m6, ti_m5, ti_m4, ti_m3, ti_m2, ti_m1, ti_0, ti_1, ti_2, ti_3, ti_4, ti_5, ti_6, ti_7, ti_8, ti_9, ti_10, ti_11, ti_12, ti_19, ti_20, ti_21, ti_44, ti_45, ti_48, ti_57, ti_59, ti_60, ti_98, ti_99, ti_100, ti_101, ti_103, ti_108, ti_110, ti_114, ti_127] at c13
        subst hp
        exact ⟨hI, hKr⟩
set_option maxRecDepth 100000 in
theorem s_X8_often (a1 : Int32) {lg0 : LGt} {it0 : ITt} (hI : I8 lg0 it0) : w_X8_often a1 (fun (v : Int32) (lg' : LGt) (it' : ITt) => (I8 lg' it' ∧ Kc (fun j => (55 ≤ j ∧ j < 450)) lg0 it0 lg' it'))  lg0 it0 := by
  have hb_a1 := And.intro a1.le_toInt a1.toInt_lt
  have hKr : Kc (fun j => (55 ≤ j ∧ j < 450)) lg0 it0 lg0 it0 := kc_r
  generalize hp : (fun (v : Int32) (lg' : LGt) (it' : ITt) => (I8 lg' it' ∧ Kc (fun j => (55 ≤ j ∧ j < 450)) lg0 it0 lg' it')) = Pz
  unfold w_X8_often
  have f23 : 0 ≤ (it0 2 0).toInt ∧ (it0 2 0).toInt ≤ 6 := i8_3 hI oq_2
  refine ⟨fun c5 => ?_, fun c5 => ?_⟩
  · try simp only [Int32.lt_iff_toInt_lt, Int32.le_iff_toInt_le, ← Int32.toInt_inj, Int32.toInt_toInt64, ti_m14, ti_m13, ti_m12, ti_m11, ti_m10, ti_m9, ti_m6, ti_m5, ti_m4, ti_m3, ti_m2, ti_m1, ti_0, ti_1, ti_2, ti_3, ti_4, ti_5, ti_6, ti_7, ti_8, ti_9, ti_10, ti_11, ti_12, ti_19, ti_20, ti_21, ti_44, ti_45, ti_48, ti_57, ti_59, ti_60, ti_98, ti_99, ti_100, ti_101, ti_103, ti_108, ti_110, ti_114, ti_127] at c5
    refine ⟨_, s_X0_work (in_rb_2) ((20 : Int32)) hI , ?_⟩
    intro lg24 it25 hq
    obtain ⟨hI26, hK27⟩ := hq
    have hK28 : Kc (fun j => (55 ≤ j ∧ j < 450)) lg0 it0 lg24 it25 := kc_t hKr hK27 (fun j hj => by first | omega | exact False.elim hj | (dsimp only at hj ⊢; omega))
    have lp30 : ∀ (n : Nat) (x2 : Int32) (x3 : Int32) (lg : LGt) (it : ITt), I8 lg it → Kc (fun j => (55 ≤ j ∧ j < 450)) lg0 it0 lg it → ((0 ≤ (x3).toInt)) → (21 - (x3).toInt).toNat < n → w_X8_often_b30 a1 Pz  n x2 x3 lg it := by
      intro n30
      induction n30 with
      | zero => intro x2 x3 lg it _ _ _ hn; exact absurd hn (Nat.not_lt_zero _)
      | succ n30 ih30 =>
        intro x2 x3 lg33 it34 hI31 hK32 hv hn
        unfold w_X8_often_b30
        have hv30_0 := hv
        have f35 : 0 ≤ (it34 55 3).toInt ∧ (it34 55 3).toInt ≤ 20 := i8_0 hI31
        refine ⟨fun c38 => ?_, fun c38 => ?_⟩
        · try simp only [Int32.lt_iff_toInt_lt, Int32.le_iff_toInt_le, ← Int32.toInt_inj, Int32.toInt_toInt64, ti_m14, ti_m13, ti_m12, ti_m11, ti_m10, ti_m9, ti_m6, ti_m5, ti_m4, ti_m3, ti_m2, ti_m1, ti_0, ti_1, ti_2, ti_3, ti_4, ti_5, ti_6, ti_7, ti_8, ti_9, ti_10, ti_11, ti_12, ti_19, ti_20, ti_21, ti_44, ti_45, ti_48, ti_57, ti_59, ti_60, ti_98, ti_99, ti_100, ti_101, ti_103, ti_108, ti_110, ti_114, ti_127] at c38
          subst hp
          exact ⟨hI31, hK32⟩
        · try simp only [Int32.lt_iff_toInt_lt, Int32.le_iff_toInt_le, ← Int32.toInt_inj, Int32.toInt_toInt64, ti_m14, ti_m13, ti_m12, ti_m11, ti_m10, ti_m9, ti_m6, ti_m5, ti_m4, ti_m3, ti_m2, ti_m1, ti_0, ti_1, ti_2, ti_3, ti_4, ti_5, ti_6, ti_7, ti_8, ti_9, ti_10, ti_11, ti_12, ti_19, ti_20, ti_21, ti_44, ti_45, ti_48, ti_57, ti_59, ti_60, ti_98, ti_99, ti_100, ti_101, ti_103, ti_108, ti_110, ti_114, ti_127] at c38
          have hi36 : vp_in x3 20 := vp_of (by first | omega | ((try simp only [Int32.lt_iff_toInt_lt, Int32.le_iff_toInt_le, ← Int32.toInt_inj, Int32.toInt_toInt64, ti_m14, ti_m13, ti_m12, ti_m11, ti_m10, ti_m9, ti_m6, ti_m5, ti_m4, ti_m3, ti_m2, ti_m1, ti_0, ti_1, ti_2, ti_3, ti_4, ti_5, ti_6, ti_7, ti_8, ti_9, ti_10, ti_11, ti_12, ti_19, ti_20, ti_21, ti_44, ti_45, ti_48, ti_57, ti_59, ti_60, ti_98, ti_99, ti_100, ti_101, ti_103, ti_108, ti_110, ti_114, ti_127]); omega) | (split <;> omega)) (by first | omega | ((try simp only [Int32.lt_iff_toInt_lt, Int32.le_iff_toInt_le, ← Int32.toInt_inj, Int32.toInt_toInt64, ti_m14, ti_m13, ti_m12, ti_m11, ti_m10, ti_m9, ti_m6, ti_m5, ti_m4, ti_m3, ti_m2, ti_m1, ti_0, ti_1, ti_2, ti_3, ti_4, ti_5, ti_6, ti_7, ti_8, ti_9, ti_10, ti_11, ti_12, ti_19, ti_20, ti_21, ti_44, ti_45, ti_48, ti_57, ti_59, ti_60, ti_98, ti_99, ti_100, ti_101, ti_103, ti_108, ti_110, ti_114, ti_127]); omega) | (split <;> omega))
          refine ⟨hi36, ?_⟩
          have hz37 := vlt hi36
          refine ⟨_, s_X8_takesPart  (a1) ((it34 436 x3.toNatClampNeg)) hI31 , ?_⟩
          intro v43 lg38 it39 hq
          obtain ⟨⟨hI40, hK41⟩, ha44⟩ := hq
          have hK42 : Kc (fun j => (55 ≤ j ∧ j < 450)) lg0 it0 lg38 it39 := kc_t hK32 hK41 (fun j hj => by first | omega | exact False.elim hj | (dsimp only at hj ⊢; omega))
          try have e45 : (it39 55 3).toInt = (it34 55 3).toInt := congrArg (fun f => Int32.toInt (f 3)) (hK41 55 (by first | omega | (dsimp only; omega))).2
          refine ⟨fun c55 => ?_, fun c55 => ?_⟩
          · try simp only [Int32.lt_iff_toInt_lt, Int32.le_iff_toInt_le, ← Int32.toInt_inj, Int32.toInt_toInt64, ti_m14, ti_m13, ti_m12, ti_m11, ti_m10, ti_m9, ti_m6, ti_m5, ti_m4, ti_m3, ti_m2, ti_m1, ti_0, ti_1, ti_2, ti_3, ti_4, ti_5, ti_6, ti_7, ti_8, ti_9, ti_10, ti_11, ti_12, ti_19, ti_20, ti_21, ti_44, ti_45, ti_48, ti_57, ti_59, ti_60, ti_98, ti_99, ti_100, ti_101, ti_103, ti_108, ti_110, ti_114, ti_127] at c55
            try have f46 : ((x3 + 1) : Int32).toInt = (x3).toInt + 1 := ad32 (a := (x3).toInt) (b := 1) (rfl) (ti_1) (by omega) (by omega)
            exact ih30 (x2) ((x3 + 1)) _ _ hI40 hK42 (by first | omega | assumption) (by omega)
          · try simp only [Int32.lt_iff_toInt_lt, Int32.le_iff_toInt_le, ← Int32.toInt_inj, Int32.toInt_toInt64, ti_m14, ti_m13, ti_m12, ti_m11, ti_m10, ti_m9, ti_m6, ti_m5, ti_m4, ti_m3, ti_m2, ti_m1, ti_0, ti_1, ti_2, ti_3, ti_4, ti_5, ti_6, ti_7, ti_8, ti_9, ti_10, ti_11, ti_12, ti_19, ti_20, ti_21, ti_44, ti_45, ti_48, ti_57, ti_59, ti_60, ti_98, ti_99, ti_100, ti_101, ti_103, ti_108, ti_110, ti_114, ti_127] at c55
            try have f47 : ((x2 + 1) : Int32).toInt = (x2).toInt + 1 := ad32 (a := (x2).toInt) (b := 1) (rfl) (ti_1) (by omega) (by omega)
            try have f48 : ((x3 + 1) : Int32).toInt = (x3).toInt + 1 := ad32 (a := (x3).toInt) (b := 1) (rfl) (ti_1) (by omega) (by omega)
            exact ih30 ((x2 + 1)) ((x3 + 1)) _ _ hI40 hK42 (by first | omega | assumption) (by omega)
    have t49 := ti_0
    have t50 := ti_0
    exact ⟨_, lp30 ((21 - ((0 : Int32)).toInt).toNat + 1) ((0 : Int32)) ((0 : Int32)) _ _ hI26 hK28 (by first | omega | assumption) (Nat.lt_succ_self _)⟩
  · try simp only [Int32.lt_iff_toInt_lt, Int32.le_iff_toInt_le, ← Int32.toInt_inj, Int32.toInt_toInt64, ti_m14, ti_m13, ti_m12, ti_m11, ti_m10, ti_m9, ti_m6, ti_m5, ti_m4, ti_m3, ti_m2, ti_m1, ti_0, ti_1, ti_2, ti_3, ti_4, ti_5, ti_6, ti_7, ti_8, ti_9, ti_10, ti_11, ti_12, ti_19, ti_20, ti_21, ti_44, ti_45, ti_48, ti_57, ti_59, ti_60, ti_98, ti_99, ti_100, ti_101, ti_103, ti_108, ti_110, ti_114, ti_127] at c5
    subst hp
    exact ⟨hI, hKr⟩
set_option maxRecDepth 100000 in
theorem s_X8_at (a1 : Int32) (a2 : Int32) (a3 : Int32) {lg0 : LGt} {it0 : ITt} (hI : I8 lg0 it0) : w_X8_at a1 a2 a3 (fun (v : Int64) (lg' : LGt) (it' : ITt) => (I8 lg' it' ∧ Kc (fun j => (55 ≤ j ∧ j < 450) ∨ (486 ≤ j ∧ j < 489)) lg0 it0 lg' it'))  lg0 it0 := by
  have hb_a1 := And.intro a1.le_toInt a1.toInt_lt
  have hb_a2 := And.intro a2.le_toInt a2.toInt_lt
  have hb_a3 := And.intro a3.le_toInt a3.toInt_lt
  have hKr : Kc (fun j => (55 ≤ j ∧ j < 450) ∨ (486 ≤ j ∧ j < 489)) lg0 it0 lg0 it0 := kc_r
  generalize hp : (fun (v : Int64) (lg' : LGt) (it' : ITt) => (I8 lg' it' ∧ Kc (fun j => (55 ≤ j ∧ j < 450) ∨ (486 ≤ j ∧ j < 489)) lg0 it0 lg' it')) = Pz
  unfold w_X8_at
  have f53 : 0 ≤ (it0 2 0).toInt ∧ (it0 2 0).toInt ≤ 6 := i8_3 hI oq_2
  refine ⟨fun c5 => ?_, fun c5 => ?_⟩
  · try simp only [Int32.lt_iff_toInt_lt, Int32.le_iff_toInt_le, ← Int32.toInt_inj, Int32.toInt_toInt64, ti_m14, ti_m13, ti_m12, ti_m11, ti_m10, ti_m9, ti_m6, ti_m5, ti_m4, ti_m3, ti_m2, ti_m1, ti_0, ti_1, ti_2, ti_3, ti_4, ti_5, ti_6, ti_7, ti_8, ti_9, ti_10, ti_11, ti_12, ti_19, ti_20, ti_21, ti_44, ti_45, ti_48, ti_57, ti_59, ti_60, ti_98, ti_99, ti_100, ti_101, ti_103, ti_108, ti_110, ti_114, ti_127] at c5
    subst hp
    exact ⟨hI, hKr⟩
  · try simp only [Int32.lt_iff_toInt_lt, Int32.le_iff_toInt_le, ← Int32.toInt_inj, Int32.toInt_toInt64, ti_m14, ti_m13, ti_m12, ti_m11, ti_m10, ti_m9, ti_m6, ti_m5, ti_m4, ti_m3, ti_m2, ti_m1, ti_0, ti_1, ti_2, ti_3, ti_4, ti_5, ti_6, ti_7, ti_8, ti_9, ti_10, ti_11, ti_12, ti_19, ti_20, ti_21, ti_44, ti_45, ti_48, ti_57, ti_59, ti_60, ti_98, ti_99, ti_100, ti_101, ti_103, ti_108, ti_110, ti_114, ti_127] at c5
    refine ⟨fun c9 => ?_, fun c9 => ?_⟩
    · try simp only [Int32.lt_iff_toInt_lt, Int32.le_iff_toInt_le, ← Int32.toInt_inj, Int32.toInt_toInt64, ti_m14, ti_m13, ti_m12, ti_m11, ti_m10, ti_m9, ti_m6, ti_m5, ti_m4, ti_m3, ti_m2, ti_m1, ti_0, ti_1, ti_2, ti_3, ti_4, ti_5, ti_6, ti_7, ti_8, ti_9, ti_10, ti_11, ti_12, ti_19, ti_20, ti_21, ti_44, ti_45, ti_48, ti_57, ti_59, ti_60, ti_98, ti_99, ti_100, ti_101, ti_103, ti_108, ti_110, ti_114, ti_127] at c9
      subst hp
      exact ⟨hI, hKr⟩
    · try simp only [Int32.lt_iff_toInt_lt, Int32.le_iff_toInt_le, ← Int32.toInt_inj, Int32.toInt_toInt64, ti_m14, ti_m13, ti_m12, ti_m11, ti_m10, ti_m9, ti_m6, ti_m5, ti_m4, ti_m3, ti_m2, ti_m1, ti_0, ti_1, ti_2, ti_3, ti_4, ti_5, ti_6, ti_7, ti_8, ti_9, ti_10, ti_11, ti_12, ti_19, ti_20, ti_21, ti_44, ti_45, ti_48, ti_57, ti_59, ti_60, ti_98, ti_99, ti_100, ti_101, ti_103, ti_108, ti_110, ti_114, ti_127] at c9
      refine ⟨fun c15 => ?_, fun c15 => ?_⟩
      · try simp only [Int32.lt_iff_toInt_lt, Int32.le_iff_toInt_le, ← Int32.toInt_inj, Int32.toInt_toInt64, ti_m14, ti_m13, ti_m12, ti_m11, ti_m10, ti_m9, ti_m6, ti_m5, ti_m4, ti_m3, ti_m2, ti_m1, ti_0, ti_1, ti_2, ti_3, ti_4, ti_5, ti_6, ti_7, ti_8, ti_9, ti_10, ti_11, ti_12, ti_19, ti_20, ti_21, ti_44, ti_45, ti_48, ti_57, ti_59, ti_60, ti_98, ti_99, ti_100, ti_101, ti_103, ti_108, ti_110, ti_114, ti_127] at c15
        subst hp
        exact ⟨hI, hKr⟩
      · try simp only [Int32.lt_iff_toInt_lt, Int32.le_iff_toInt_le, ← Int32.toInt_inj, Int32.toInt_toInt64, ti_m14, ti_m13, ti_m12, ti_m11, ti_m10, ti_m9, ti_m6, ti_m5, ti_m4, ti_m3, ti_m2, ti_m1, ti_0, ti_1, ti_2, ti_3, ti_4, ti_5, ti_6, ti_7, ti_8, ti_9, ti_10, ti_11, ti_12, ti_19, ti_20, ti_21, ti_44, ti_45, ti_48, ti_57, ti_59, ti_60, ti_98, ti_99, ti_100, ti_101, ti_103, ti_108, ti_110, ti_114, ti_127] at c15
        refine ⟨fun c22 => ?_, fun c22 => ?_⟩
        · try simp only [Int32.lt_iff_toInt_lt, Int32.le_iff_toInt_le, ← Int32.toInt_inj, Int32.toInt_toInt64, ti_m14, ti_m13, ti_m12, ti_m11, ti_m10, ti_m9, ti_m6, ti_m5, ti_m4, ti_m3, ti_m2, ti_m1, ti_0, ti_1, ti_2, ti_3, ti_4, ti_5, ti_6, ti_7, ti_8, ti_9, ti_10, ti_11, ti_12, ti_19, ti_20, ti_21, ti_44, ti_45, ti_48, ti_57, ti_59, ti_60, ti_98, ti_99, ti_100, ti_101, ti_103, ti_108, ti_110, ti_114, ti_127] at c22
          refine ⟨_, s_X8_lastStopBy  (a2) hI , ?_⟩
          intro v59 lg54 it55 hq
          obtain ⟨⟨hI56, hK57⟩, ha60⟩ := hq
          have hK58 : Kc (fun j => (55 ≤ j ∧ j < 450) ∨ (486 ≤ j ∧ j < 489)) lg0 it0 lg54 it55 := kc_t hKr hK57 (fun j hj => by first | omega | exact False.elim hj | (dsimp only at hj ⊢; omega))
          refine ⟨fun c38 => ?_, fun c38 => ?_⟩
          · try simp only [Int32.lt_iff_toInt_lt, Int32.le_iff_toInt_le, ← Int32.toInt_inj, Int32.toInt_toInt64, ti_m14, ti_m13, ti_m12, ti_m11, ti_m10, ti_m9, ti_m6, ti_m5, ti_m4, ti_m3, ti_m2, ti_m1, ti_0, ti_1, ti_2, ti_3, ti_4, ti_5, ti_6, ti_7, ti_8, ti_9, ti_10, ti_11, ti_12, ti_19, ti_20, ti_21, ti_44, ti_45, ti_48, ti_57, ti_59, ti_60, ti_98, ti_99, ti_100, ti_101, ti_103, ti_108, ti_110, ti_114, ti_127] at c38
            intro lg61 em_lg61 it62 em_it62
            have hI63 : I8 lg61 it62 := by rw [em_it62]; exact i8_u hI56 (ok8_1 (oq_488) (fun _ => Or.inl rfl))
            have hK64 : Kc (fun j => (55 ≤ j ∧ j < 450) ∨ (486 ≤ j ∧ j < 489)) lg0 it0 lg61 it62 := by rw [em_lg61, em_it62]; exact kc_f (by first | omega | (dsimp only; omega)) hK58
            have hi65 : vp_in v59 21 := vp_of (by first | omega | ((try simp only [Int32.lt_iff_toInt_lt, Int32.le_iff_toInt_le, ← Int32.toInt_inj, Int32.toInt_toInt64, ti_m14, ti_m13, ti_m12, ti_m11, ti_m10, ti_m9, ti_m6, ti_m5, ti_m4, ti_m3, ti_m2, ti_m1, ti_0, ti_1, ti_2, ti_3, ti_4, ti_5, ti_6, ti_7, ti_8, ti_9, ti_10, ti_11, ti_12, ti_19, ti_20, ti_21, ti_44, ti_45, ti_48, ti_57, ti_59, ti_60, ti_98, ti_99, ti_100, ti_101, ti_103, ti_108, ti_110, ti_114, ti_127]); omega) | (split <;> omega)) (by first | omega | ((try simp only [Int32.lt_iff_toInt_lt, Int32.le_iff_toInt_le, ← Int32.toInt_inj, Int32.toInt_toInt64, ti_m14, ti_m13, ti_m12, ti_m11, ti_m10, ti_m9, ti_m6, ti_m5, ti_m4, ti_m3, ti_m2, ti_m1, ti_0, ti_1, ti_2, ti_3, ti_4, ti_5, ti_6, ti_7, ti_8, ti_9, ti_10, ti_11, ti_12, ti_19, ti_20, ti_21, ti_44, ti_45, ti_48, ti_57, ti_59, ti_60, ti_98, ti_99, ti_100, ti_101, ti_103, ti_108, ti_110, ti_114, ti_127]); omega) | (split <;> omega))
            refine ⟨hi65, ?_⟩
            have hz66 := vlt hi65
            intro q67 em_q67 lg68 em_lg68 it69 em_it69
            have hI70 : I8 lg68 it69 := by rw [em_it69]; exact i8_u hI63 (ok8_1 (oq_488) (fun _ => by rw [em_q67]; exact stF_01 _ _ _ _ _))
            have hK71 : Kc (fun j => (55 ≤ j ∧ j < 450) ∨ (486 ≤ j ∧ j < 489)) lg0 it0 lg68 it69 := by rw [em_lg68, em_it69]; exact kc_f (by first | omega | (dsimp only; omega)) hK64
            have hi72 : vp_in v59 21 := vp_of (by first | omega | ((try simp only [Int32.lt_iff_toInt_lt, Int32.le_iff_toInt_le, ← Int32.toInt_inj, Int32.toInt_toInt64, ti_m14, ti_m13, ti_m12, ti_m11, ti_m10, ti_m9, ti_m6, ti_m5, ti_m4, ti_m3, ti_m2, ti_m1, ti_0, ti_1, ti_2, ti_3, ti_4, ti_5, ti_6, ti_7, ti_8, ti_9, ti_10, ti_11, ti_12, ti_19, ti_20, ti_21, ti_44, ti_45, ti_48, ti_57, ti_59, ti_60, ti_98, ti_99, ti_100, ti_101, ti_103, ti_108, ti_110, ti_114, ti_127]); omega) | (split <;> omega)) (by first | omega | ((try simp only [Int32.lt_iff_toInt_lt, Int32.le_iff_toInt_le, ← Int32.toInt_inj, Int32.toInt_toInt64, ti_m14, ti_m13, ti_m12, ti_m11, ti_m10, ti_m9, ti_m6, ti_m5, ti_m4, ti_m3, ti_m2, ti_m1, ti_0, ti_1, ti_2, ti_3, ti_4, ti_5, ti_6, ti_7, ti_8, ti_9, ti_10, ti_11, ti_12, ti_19, ti_20, ti_21, ti_44, ti_45, ti_48, ti_57, ti_59, ti_60, ti_98, ti_99, ti_100, ti_101, ti_103, ti_108, ti_110, ti_114, ti_127]); omega) | (split <;> omega))
            refine ⟨hi72, ?_⟩
            have hz73 := vlt hi72
            have hi74 : vp_in a1 6 := vp_of (by first | omega | ((try simp only [Int32.lt_iff_toInt_lt, Int32.le_iff_toInt_le, ← Int32.toInt_inj, Int32.toInt_toInt64, ti_m14, ti_m13, ti_m12, ti_m11, ti_m10, ti_m9, ti_m6, ti_m5, ti_m4, ti_m3, ti_m2, ti_m1, ti_0, ti_1, ti_2, ti_3, ti_4, ti_5, ti_6, ti_7, ti_8, ti_9, ti_10, ti_11, ti_12, ti_19, ti_20, ti_21, ti_44, ti_45, ti_48, ti_57, ti_59, ti_60, ti_98, ti_99, ti_100, ti_101, ti_103, ti_108, ti_110, ti_114, ti_127]); omega) | (split <;> omega)) (by first | omega | ((try simp only [Int32.lt_iff_toInt_lt, Int32.le_iff_toInt_le, ← Int32.toInt_inj, Int32.toInt_toInt64, ti_m14, ti_m13, ti_m12, ti_m11, ti_m10, ti_m9, ti_m6, ti_m5, ti_m4, ti_m3, ti_m2, ti_m1, ti_0, ti_1, ti_2, ti_3, ti_4, ti_5, ti_6, ti_7, ti_8, ti_9, ti_10, ti_11, ti_12, ti_19, ti_20, ti_21, ti_44, ti_45, ti_48, ti_57, ti_59, ti_60, ti_98, ti_99, ti_100, ti_101, ti_103, ti_108, ti_110, ti_114, ti_127]); omega) | (split <;> omega))
            refine ⟨hi74, ?_⟩
            have hz75 := vlt hi74
            have hc78 : it69 ((58 + 18 * v59.toNatClampNeg) + 5 + 2 * a1.toNatClampNeg) 2 &&& 1 = it69 ((58 + 18 * v59.toNatClampNeg) + 5 + 2 * a1.toNatClampNeg) 2 := ib (i8_1 hI70 ((rpo5 (rst (vlt (hi72))) (vlt (hi74)))))
            refine ⟨hc78, ?_⟩
            intro lg76 em_lg76 it77 em_it77
            have hI79 : I8 lg76 it77 := by rw [em_it77]; exact i8_u hI70 (ok8_1 (oq_487) (fun _ => i8_1 hI70 ((rpo5 (rst (vlt (hi72))) (vlt (hi74))))))
            have hK80 : Kc (fun j => (55 ≤ j ∧ j < 450) ∨ (486 ≤ j ∧ j < 489)) lg0 it0 lg76 it77 := by rw [em_lg76, em_it77]; exact kc_f (by first | omega | (dsimp only; omega)) hK71
            intro q81 em_q81 lg82 em_lg82 it83 em_it83
            have hI84 : I8 lg82 it83 := by rw [em_it83]; exact i8_u hI79 (ok8_1 (oq_487) (fun _ => by rw [em_q81]; exact stF_01 _ _ _ _ _))
            have hK85 : Kc (fun j => (55 ≤ j ∧ j < 450) ∨ (486 ≤ j ∧ j < 489)) lg0 it0 lg82 it83 := by rw [em_lg82, em_it83]; exact kc_f (by first | omega | (dsimp only; omega)) hK80
            have hi86 : vp_in v59 21 := vp_of (by first | omega | ((try simp only [Int32.lt_iff_toInt_lt, Int32.le_iff_toInt_le, ← Int32.toInt_inj, Int32.toInt_toInt64, ti_m14, ti_m13, ti_m12, ti_m11, ti_m10, ti_m9, ti_m6, ti_m5, ti_m4, ti_m3, ti_m2, ti_m1, ti_0, ti_1, ti_2, ti_3, ti_4, ti_5, ti_6, ti_7, ti_8, ti_9, ti_10, ti_11, ti_12, ti_19, ti_20, ti_21, ti_44, ti_45, ti_48, ti_57, ti_59, ti_60, ti_98, ti_99, ti_100, ti_101, ti_103, ti_108, ti_110, ti_114, ti_127]); omega) | (split <;> omega)) (by first | omega | ((try simp only [Int32.lt_iff_toInt_lt, Int32.le_iff_toInt_le, ← Int32.toInt_inj, Int32.toInt_toInt64, ti_m14, ti_m13, ti_m12, ti_m11, ti_m10, ti_m9, ti_m6, ti_m5, ti_m4, ti_m3, ti_m2, ti_m1, ti_0, ti_1, ti_2, ti_3, ti_4, ti_5, ti_6, ti_7, ti_8, ti_9, ti_10, ti_11, ti_12, ti_19, ti_20, ti_21, ti_44, ti_45, ti_48, ti_57, ti_59, ti_60, ti_98, ti_99, ti_100, ti_101, ti_103, ti_108, ti_110, ti_114, ti_127]); omega) | (split <;> omega))
            refine ⟨hi86, ?_⟩
            have hz87 := vlt hi86
            have hi88 : vp_in a1 6 := vp_of (by first | omega | ((try simp only [Int32.lt_iff_toInt_lt, Int32.le_iff_toInt_le, ← Int32.toInt_inj, Int32.toInt_toInt64, ti_m14, ti_m13, ti_m12, ti_m11, ti_m10, ti_m9, ti_m6, ti_m5, ti_m4, ti_m3, ti_m2, ti_m1, ti_0, ti_1, ti_2, ti_3, ti_4, ti_5, ti_6, ti_7, ti_8, ti_9, ti_10, ti_11, ti_12, ti_19, ti_20, ti_21, ti_44, ti_45, ti_48, ti_57, ti_59, ti_60, ti_98, ti_99, ti_100, ti_101, ti_103, ti_108, ti_110, ti_114, ti_127]); omega) | (split <;> omega)) (by first | omega | ((try simp only [Int32.lt_iff_toInt_lt, Int32.le_iff_toInt_le, ← Int32.toInt_inj, Int32.toInt_toInt64, ti_m14, ti_m13, ti_m12, ti_m11, ti_m10, ti_m9, ti_m6, ti_m5, ti_m4, ti_m3, ti_m2, ti_m1, ti_0, ti_1, ti_2, ti_3, ti_4, ti_5, ti_6, ti_7, ti_8, ti_9, ti_10, ti_11, ti_12, ti_19, ti_20, ti_21, ti_44, ti_45, ti_48, ti_57, ti_59, ti_60, ti_98, ti_99, ti_100, ti_101, ti_103, ti_108, ti_110, ti_114, ti_127]); omega) | (split <;> omega))
            refine ⟨hi88, ?_⟩
            have hz89 := vlt hi88
            have hc92 : it83 ((58 + 18 * v59.toNatClampNeg) + 4 + 2 * a1.toNatClampNeg) 2 &&& 1 = it83 ((58 + 18 * v59.toNatClampNeg) + 4 + 2 * a1.toNatClampNeg) 2 := ib (i8_1 hI84 ((rpo4 (rst (vlt (hi86))) (vlt (hi88)))))
            refine ⟨hc92, ?_⟩
            intro lg90 em_lg90 it91 em_it91
            have hI93 : I8 lg90 it91 := by rw [em_it91]; exact i8_u hI84 (ok8_1 (oq_486) (fun _ => i8_1 hI84 ((rpo4 (rst (vlt (hi86))) (vlt (hi88))))))
            have hK94 : Kc (fun j => (55 ≤ j ∧ j < 450) ∨ (486 ≤ j ∧ j < 489)) lg0 it0 lg90 it91 := by rw [em_lg90, em_it91]; exact kc_f (by first | omega | (dsimp only; omega)) hK85
            intro q95 em_q95 lg96 em_lg96 it97 em_it97
            have hI98 : I8 lg96 it97 := by rw [em_it97]; exact i8_u hI93 (ok8_1 (oq_486) (fun _ => by rw [em_q95]; exact stF_01 _ _ _ _ _))
            have hK99 : Kc (fun j => (55 ≤ j ∧ j < 450) ∨ (486 ≤ j ∧ j < 489)) lg0 it0 lg96 it97 := by rw [em_lg96, em_it97]; exact kc_f (by first | omega | (dsimp only; omega)) hK94
            subst hp
            exact ⟨hI98, hK99⟩
          · try simp only [Int32.lt_iff_toInt_lt, Int32.le_iff_toInt_le, ← Int32.toInt_inj, Int32.toInt_toInt64, ti_m14, ti_m13, ti_m12, ti_m11, ti_m10, ti_m9, ti_m6, ti_m5, ti_m4, ti_m3, ti_m2, ti_m1, ti_0, ti_1, ti_2, ti_3, ti_4, ti_5, ti_6, ti_7, ti_8, ti_9, ti_10, ti_11, ti_12, ti_19, ti_20, ti_21, ti_44, ti_45, ti_48, ti_57, ti_59, ti_60, ti_98, ti_99, ti_100, ti_101, ti_103, ti_108, ti_110, ti_114, ti_127] at c38
            subst hp
            exact ⟨hI56, hK58⟩
        · try simp only [Int32.lt_iff_toInt_lt, Int32.le_iff_toInt_le, ← Int32.toInt_inj, Int32.toInt_toInt64, ti_m14, ti_m13, ti_m12, ti_m11, ti_m10, ti_m9, ti_m6, ti_m5, ti_m4, ti_m3, ti_m2, ti_m1, ti_0, ti_1, ti_2, ti_3, ti_4, ti_5, ti_6, ti_7, ti_8, ti_9, ti_10, ti_11, ti_12, ti_19, ti_20, ti_21, ti_44, ti_45, ti_48, ti_57, ti_59, ti_60, ti_98, ti_99, ti_100, ti_101, ti_103, ti_108, ti_110, ti_114, ti_127] at c22
          subst hp
          exact ⟨hI, hKr⟩
set_option maxRecDepth 100000 in
theorem s_X8_see (a1 : Int32) (a2 : Int32) {lg0 : LGt} {it0 : ITt} (hI : I8 lg0 it0) : w_X8_see a1 a2 (fun (v : Int32) (lg' : LGt) (it' : ITt) => (I8 lg' it' ∧ Kc (fun j => (19 ≤ j ∧ j < 22)) lg0 it0 lg' it'))  lg0 it0 := by
  have hb_a1 := And.intro a1.le_toInt a1.toInt_lt
  have hb_a2 := And.intro a2.le_toInt a2.toInt_lt
  have hKr : Kc (fun j => (19 ≤ j ∧ j < 22)) lg0 it0 lg0 it0 := kc_r
  generalize hp : (fun (v : Int32) (lg' : LGt) (it' : ITt) => (I8 lg' it' ∧ Kc (fun j => (19 ≤ j ∧ j < 22)) lg0 it0 lg' it')) = Pz
  unfold w_X8_see
  refine ⟨_, s_X8_addStrike (in_pb_19) (a1) (a2) hI , ?_⟩
  intro v13 lg8 it9 hq
  obtain ⟨hI10, hK11⟩ := hq
  have hK12 : Kc (fun j => (19 ≤ j ∧ j < 22)) lg0 it0 lg8 it9 := kc_t hKr hK11 (fun j hj => by first | omega | exact False.elim hj | (dsimp only at hj ⊢; omega))
  subst hp
  exact ⟨hI10, hK12⟩
set_option maxRecDepth 100000 in
theorem s_X8_fits (a1 : Int32) (a2 : Int32) {lg0 : LGt} {it0 : ITt} (hI : I8 lg0 it0) : w_X8_fits a1 a2 (fun (v : Int32) (lg' : LGt) (it' : ITt) => (I8 lg' it' ∧ Kc (fun j => (55 ≤ j ∧ j < 450) ∨ (450 ≤ j ∧ j < 467)) lg0 it0 lg' it'))  lg0 it0 := by
  have hb_a1 := And.intro a1.le_toInt a1.toInt_lt
  have hb_a2 := And.intro a2.le_toInt a2.toInt_lt
  have hKr : Kc (fun j => (55 ≤ j ∧ j < 450) ∨ (450 ≤ j ∧ j < 467)) lg0 it0 lg0 it0 := kc_r
  generalize hp : (fun (v : Int32) (lg' : LGt) (it' : ITt) => (I8 lg' it' ∧ Kc (fun j => (55 ≤ j ∧ j < 450) ∨ (450 ≤ j ∧ j < 467)) lg0 it0 lg' it')) = Pz
  unfold w_X8_fits
  have f43 : 0 ≤ (it0 2 0).toInt ∧ (it0 2 0).toInt ≤ 6 := i8_3 hI oq_2
  refine ⟨fun c5 => ?_, fun c5 => ?_⟩
  · try simp only [Int32.lt_iff_toInt_lt, Int32.le_iff_toInt_le, ← Int32.toInt_inj, Int32.toInt_toInt64, ti_m14, ti_m13, ti_m12, ti_m11, ti_m10, ti_m9, ti_m6, ti_m5, ti_m4, ti_m3, ti_m2, ti_m1, ti_0, ti_1, ti_2, ti_3, ti_4, ti_5, ti_6, ti_7, ti_8, ti_9, ti_10, ti_11, ti_12, ti_19, ti_20, ti_21, ti_44, ti_45, ti_48, ti_57, ti_59, ti_60, ti_98, ti_99, ti_100, ti_101, ti_103, ti_108, ti_110, ti_114, ti_127] at c5
    subst hp
    exact ⟨hI, hKr⟩
  · try simp only [Int32.lt_iff_toInt_lt, Int32.le_iff_toInt_le, ← Int32.toInt_inj, Int32.toInt_toInt64, ti_m14, ti_m13, ti_m12, ti_m11, ti_m10, ti_m9, ti_m6, ti_m5, ti_m4, ti_m3, ti_m2, ti_m1, ti_0, ti_1, ti_2, ti_3, ti_4, ti_5, ti_6, ti_7, ti_8, ti_9, ti_10, ti_11, ti_12, ti_19, ti_20, ti_21, ti_44, ti_45, ti_48, ti_57, ti_59, ti_60, ti_98, ti_99, ti_100, ti_101, ti_103, ti_108, ti_110, ti_114, ti_127] at c5
    refine ⟨fun c9 => ?_, fun c9 => ?_⟩
    · try simp only [Int32.lt_iff_toInt_lt, Int32.le_iff_toInt_le, ← Int32.toInt_inj, Int32.toInt_toInt64, ti_m14, ti_m13, ti_m12, ti_m11, ti_m10, ti_m9, ti_m6, ti_m5, ti_m4, ti_m3, ti_m2, ti_m1, ti_0, ti_1, ti_2, ti_3, ti_4, ti_5, ti_6, ti_7, ti_8, ti_9, ti_10, ti_11, ti_12, ti_19, ti_20, ti_21, ti_44, ti_45, ti_48, ti_57, ti_59, ti_60, ti_98, ti_99, ti_100, ti_101, ti_103, ti_108, ti_110, ti_114, ti_127] at c9
      subst hp
      exact ⟨hI, hKr⟩
    · try simp only [Int32.lt_iff_toInt_lt, Int32.le_iff_toInt_le, ← Int32.toInt_inj, Int32.toInt_toInt64, ti_m14, ti_m13, ti_m12, ti_m11, ti_m10, ti_m9, ti_m6, ti_m5, ti_m4, ti_m3, ti_m2, ti_m1, ti_0, ti_1, ti_2, ti_3, ti_4, ti_5, ti_6, ti_7, ti_8, ti_9, ti_10, ti_11, ti_12, ti_19, ti_20, ti_21, ti_44, ti_45, ti_48, ti_57, ti_59, ti_60, ti_98, ti_99, ti_100, ti_101, ti_103, ti_108, ti_110, ti_114, ti_127] at c9
      refine ⟨fun c14 => ?_, fun c14 => ?_⟩
      · try simp only [Int32.lt_iff_toInt_lt, Int32.le_iff_toInt_le, ← Int32.toInt_inj, Int32.toInt_toInt64, ti_m14, ti_m13, ti_m12, ti_m11, ti_m10, ti_m9, ti_m6, ti_m5, ti_m4, ti_m3, ti_m2, ti_m1, ti_0, ti_1, ti_2, ti_3, ti_4, ti_5, ti_6, ti_7, ti_8, ti_9, ti_10, ti_11, ti_12, ti_19, ti_20, ti_21, ti_44, ti_45, ti_48, ti_57, ti_59, ti_60, ti_98, ti_99, ti_100, ti_101, ti_103, ti_108, ti_110, ti_114, ti_127] at c14
        have lp24 : ∀ (n : Nat) (x3 : Int32) (x4 : Int32) (lg : LGt) (it : ITt), I8 lg it → Kc (fun j => (55 ≤ j ∧ j < 450) ∨ (450 ≤ j ∧ j < 467)) lg0 it0 lg it → ((0 ≤ (x4).toInt)) → (9 - (x4).toInt).toNat < n → w_X8_fits_b24 a1 a2 Pz  n x3 x4 lg it := by
          intro n24
          induction n24 with
          | zero => intro x3 x4 lg it _ _ _ hn; exact absurd hn (Nat.not_lt_zero _)
          | succ n24 ih24 =>
            intro x3 x4 lg46 it47 hI44 hK45 hv hn
            unfold w_X8_fits_b24
            have hv24_0 := hv
            have f48 : 0 ≤ (it47 19 2).toInt ∧ (it47 19 2).toInt ≤ 5 := by have h := i8_2 hI44 oq_19; rw [lq_20] at h; exact h
            refine ⟨fun c36 => ?_, fun c36 => ?_⟩
            · try simp only [Int32.lt_iff_toInt_lt, Int32.le_iff_toInt_le, ← Int32.toInt_inj, Int32.toInt_toInt64, ti_m14, ti_m13, ti_m12, ti_m11, ti_m10, ti_m9, ti_m6, ti_m5, ti_m4, ti_m3, ti_m2, ti_m1, ti_0, ti_1, ti_2, ti_3, ti_4, ti_5, ti_6, ti_7, ti_8, ti_9, ti_10, ti_11, ti_12, ti_19, ti_20, ti_21, ti_44, ti_45, ti_48, ti_57, ti_59, ti_60, ti_98, ti_99, ti_100, ti_101, ti_103, ti_108, ti_110, ti_114, ti_127] at c36
              have lp75 : ∀ (n : Nat) (x3 : Int32) (x4 : Int32) (x5 : Int32) (x6 : Int32) (lg : LGt) (it : ITt), I8 lg it → Kc (fun j => (55 ≤ j ∧ j < 450) ∨ (450 ≤ j ∧ j < 467)) lg0 it0 lg it → ((-6 ≤ (x6).toInt) ∧ ((x6).toInt ≤ 5)) → ((x6).toInt + 6).toNat < n → w_X8_fits_b75 a1 a2 Pz  n x3 x4 x5 x6 lg it := by
                intro n75
                induction n75 with
                | zero => intro x3 x4 x5 x6 lg it _ _ _ hn; exact absurd hn (Nat.not_lt_zero _)
                | succ n75 ih75 =>
                  intro x3 x4 x5 x6 lg51 it52 hI49 hK50 hv hn
                  unfold w_X8_fits_b75
                  obtain ⟨hv75_0, hv75_1⟩ := hv
                  refine ⟨fun c79 => ?_, fun c79 => ?_⟩
                  · try simp only [Int32.lt_iff_toInt_lt, Int32.le_iff_toInt_le, ← Int32.toInt_inj, Int32.toInt_toInt64, ti_m14, ti_m13, ti_m12, ti_m11, ti_m10, ti_m9, ti_m6, ti_m5, ti_m4, ti_m3, ti_m2, ti_m1, ti_0, ti_1, ti_2, ti_3, ti_4, ti_5, ti_6, ti_7, ti_8, ti_9, ti_10, ti_11, ti_12, ti_19, ti_20, ti_21, ti_44, ti_45, ti_48, ti_57, ti_59, ti_60, ti_98, ti_99, ti_100, ti_101, ti_103, ti_108, ti_110, ti_114, ti_127] at c79
                    refine ⟨fun c156 => ?_, fun c156 => ?_⟩
                    · try simp only [Int32.lt_iff_toInt_lt, Int32.le_iff_toInt_le, ← Int32.toInt_inj, Int32.toInt_toInt64, ti_m14, ti_m13, ti_m12, ti_m11, ti_m10, ti_m9, ti_m6, ti_m5, ti_m4, ti_m3, ti_m2, ti_m1, ti_0, ti_1, ti_2, ti_3, ti_4, ti_5, ti_6, ti_7, ti_8, ti_9, ti_10, ti_11, ti_12, ti_19, ti_20, ti_21, ti_44, ti_45, ti_48, ti_57, ti_59, ti_60, ti_98, ti_99, ti_100, ti_101, ti_103, ti_108, ti_110, ti_114, ti_127] at c156
                      subst hp
                      exact ⟨hI49, hK50⟩
                    · try simp only [Int32.lt_iff_toInt_lt, Int32.le_iff_toInt_le, ← Int32.toInt_inj, Int32.toInt_toInt64, ti_m14, ti_m13, ti_m12, ti_m11, ti_m10, ti_m9, ti_m6, ti_m5, ti_m4, ti_m3, ti_m2, ti_m1, ti_0, ti_1, ti_2, ti_3, ti_4, ti_5, ti_6, ti_7, ti_8, ti_9, ti_10, ti_11, ti_12, ti_19, ti_20, ti_21, ti_44, ti_45, ti_48, ti_57, ti_59, ti_60, ti_98, ti_99, ti_100, ti_101, ti_103, ti_108, ti_110, ti_114, ti_127] at c156
                      subst hp
                      exact ⟨hI49, hK50⟩
                  · try simp only [Int32.lt_iff_toInt_lt, Int32.le_iff_toInt_le, ← Int32.toInt_inj, Int32.toInt_toInt64, ti_m14, ti_m13, ti_m12, ti_m11, ti_m10, ti_m9, ti_m6, ti_m5, ti_m4, ti_m3, ti_m2, ti_m1, ti_0, ti_1, ti_2, ti_3, ti_4, ti_5, ti_6, ti_7, ti_8, ti_9, ti_10, ti_11, ti_12, ti_19, ti_20, ti_21, ti_44, ti_45, ti_48, ti_57, ti_59, ti_60, ti_98, ti_99, ti_100, ti_101, ti_103, ti_108, ti_110, ti_114, ti_127] at c79
                    refine ⟨_, s_X3_become (in_rb_450) (in_rb_2)  hI49 , ?_⟩
                    intro lg53 it54 hq
                    obtain ⟨hI55, hK56⟩ := hq
                    have hK57 : Kc (fun j => (55 ≤ j ∧ j < 450) ∨ (450 ≤ j ∧ j < 467)) lg0 it0 lg53 it54 := kc_t hK50 hK56 (fun j hj => by first | omega | exact False.elim hj | (dsimp only at hj ⊢; omega))
                    have hi60 : vp_in a1 6 := vp_of (by first | omega | ((try simp only [Int32.lt_iff_toInt_lt, Int32.le_iff_toInt_le, ← Int32.toInt_inj, Int32.toInt_toInt64, ti_m14, ti_m13, ti_m12, ti_m11, ti_m10, ti_m9, ti_m6, ti_m5, ti_m4, ti_m3, ti_m2, ti_m1, ti_0, ti_1, ti_2, ti_3, ti_4, ti_5, ti_6, ti_7, ti_8, ti_9, ti_10, ti_11, ti_12, ti_19, ti_20, ti_21, ti_44, ti_45, ti_48, ti_57, ti_59, ti_60, ti_98, ti_99, ti_100, ti_101, ti_103, ti_108, ti_110, ti_114, ti_127]); omega) | (split <;> omega)) (by first | omega | ((try simp only [Int32.lt_iff_toInt_lt, Int32.le_iff_toInt_le, ← Int32.toInt_inj, Int32.toInt_toInt64, ti_m14, ti_m13, ti_m12, ti_m11, ti_m10, ti_m9, ti_m6, ti_m5, ti_m4, ti_m3, ti_m2, ti_m1, ti_0, ti_1, ti_2, ti_3, ti_4, ti_5, ti_6, ti_7, ti_8, ti_9, ti_10, ti_11, ti_12, ti_19, ti_20, ti_21, ti_44, ti_45, ti_48, ti_57, ti_59, ti_60, ti_98, ti_99, ti_100, ti_101, ti_103, ti_108, ti_110, ti_114, ti_127]); omega) | (split <;> omega))
                    refine ⟨hi60, ?_⟩
                    have hz61 := vlt hi60
                    intro lg62 em_lg62 it63 em_it63
                    have hI64 : I8 lg62 it63 := by rw [em_it63]; exact i8_u hI55 (ok8_1 ((rpo5 in_rb_450 (vlt (hi60)))) (fun _ => Or.inl rfl))
                    have hK65 : Kc (fun j => (55 ≤ j ∧ j < 450) ∨ (450 ≤ j ∧ j < 467)) lg0 it0 lg62 it63 := by rw [em_lg62, em_it63]; exact kc_f (by first | omega | (dsimp only; omega)) hK57
                    refine ⟨_, s_X0_work (in_rb_450) (x3) hI64 , ?_⟩
                    intro lg66 it67 hq
                    obtain ⟨hI68, hK69⟩ := hq
                    have hK70 : Kc (fun j => (55 ≤ j ∧ j < 450) ∨ (450 ≤ j ∧ j < 467)) lg0 it0 lg66 it67 := kc_t hK65 hK69 (fun j hj => by first | omega | exact False.elim hj | (dsimp only at hj ⊢; omega))
                    refine ⟨_, s_X0_firstUnlike (in_pb_19)  hI68 , ?_⟩
                    intro v78 lg73 it74 hq
                    obtain ⟨hI75, hK76⟩ := hq
                    have hK77 : Kc (fun j => (55 ≤ j ∧ j < 450) ∨ (450 ≤ j ∧ j < 467)) lg0 it0 lg73 it74 := kc_t hK70 hK76 (fun j hj => by first | omega | exact False.elim hj | (dsimp only at hj ⊢; omega))
                    refine ⟨fun c139 => ?_, fun c139 => ?_⟩
                    · try simp only [Int32.lt_iff_toInt_lt, Int32.le_iff_toInt_le, ← Int32.toInt_inj, Int32.toInt_toInt64, ti_m14, ti_m13, ti_m12, ti_m11, ti_m10, ti_m9, ti_m6, ti_m5, ti_m4, ti_m3, ti_m2, ti_m1, ti_0, ti_1, ti_2, ti_3, ti_4, ti_5, ti_6, ti_7, ti_8, ti_9, ti_10, ti_11, ti_12, ti_19, ti_20, ti_21, ti_44, ti_45, ti_48, ti_57, ti_59, ti_60, ti_98, ti_99, ti_100, ti_101, ti_103, ti_108, ti_110, ti_114, ti_127] at c139
                      try have f80 : ((x6 - 1) : Int32).toInt = (x6).toInt - 1 := sb32 (a := (x6).toInt) (b := 1) (rfl) (ti_1) (by omega) (by omega)
                      exact ih75 (x3) (x4) (x5) ((x6 - 1)) _ _ hI75 hK77 (by refine ⟨?_, ?_⟩ <;> first | omega | assumption | exact Or.inl rfl | exact Or.inr rfl | exact i8_1 (by assumption) (by assumption) | decide) (by omega)
                    · try simp only [Int32.lt_iff_toInt_lt, Int32.le_iff_toInt_le, ← Int32.toInt_inj, Int32.toInt_toInt64, ti_m14, ti_m13, ti_m12, ti_m11, ti_m10, ti_m9, ti_m6, ti_m5, ti_m4, ti_m3, ti_m2, ti_m1, ti_0, ti_1, ti_2, ti_3, ti_4, ti_5, ti_6, ti_7, ti_8, ti_9, ti_10, ti_11, ti_12, ti_19, ti_20, ti_21, ti_44, ti_45, ti_48, ti_57, ti_59, ti_60, ti_98, ti_99, ti_100, ti_101, ti_103, ti_108, ti_110, ti_114, ti_127] at c139
                      try have f81 : ((x4 + 1) : Int32).toInt = (x4).toInt + 1 := ad32 (a := (x4).toInt) (b := 1) (rfl) (ti_1) (by omega) (by omega)
                      try have f82 : ((x6 - 1) : Int32).toInt = (x6).toInt - 1 := sb32 (a := (x6).toInt) (b := 1) (rfl) (ti_1) (by omega) (by omega)
                      exact ih75 (x3) ((x4 + 1)) (x6) ((x6 - 1)) _ _ hI75 hK77 (by refine ⟨?_, ?_⟩ <;> first | omega | assumption | exact Or.inl rfl | exact Or.inr rfl | exact i8_1 (by assumption) (by assumption) | decide) (by omega)
              have t83 := ti_0
              have t84 := ti_m10
              have t85 := ti_5
              exact ⟨_, lp75 ((((5 : Int32)).toInt + 6).toNat + 1) (x3) ((0 : Int32)) (((-10) : Int32)) ((5 : Int32)) _ _ hI44 hK45 (by refine ⟨?_, ?_⟩ <;> first | omega | assumption | exact Or.inl rfl | exact Or.inr rfl | exact i8_1 (by assumption) (by assumption) | decide) (Nat.lt_succ_self _)⟩
            · try simp only [Int32.lt_iff_toInt_lt, Int32.le_iff_toInt_le, ← Int32.toInt_inj, Int32.toInt_toInt64, ti_m14, ti_m13, ti_m12, ti_m11, ti_m10, ti_m9, ti_m6, ti_m5, ti_m4, ti_m3, ti_m2, ti_m1, ti_0, ti_1, ti_2, ti_3, ti_4, ti_5, ti_6, ti_7, ti_8, ti_9, ti_10, ti_11, ti_12, ti_19, ti_20, ti_21, ti_44, ti_45, ti_48, ti_57, ti_59, ti_60, ti_98, ti_99, ti_100, ti_101, ti_103, ti_108, ti_110, ti_114, ti_127] at c36
              have hi86 : vp_in x4 5 := vp_of (by first | omega | ((try simp only [Int32.lt_iff_toInt_lt, Int32.le_iff_toInt_le, ← Int32.toInt_inj, Int32.toInt_toInt64, ti_m14, ti_m13, ti_m12, ti_m11, ti_m10, ti_m9, ti_m6, ti_m5, ti_m4, ti_m3, ti_m2, ti_m1, ti_0, ti_1, ti_2, ti_3, ti_4, ti_5, ti_6, ti_7, ti_8, ti_9, ti_10, ti_11, ti_12, ti_19, ti_20, ti_21, ti_44, ti_45, ti_48, ti_57, ti_59, ti_60, ti_98, ti_99, ti_100, ti_101, ti_103, ti_108, ti_110, ti_114, ti_127]); omega) | (split <;> omega)) (by first | omega | ((try simp only [Int32.lt_iff_toInt_lt, Int32.le_iff_toInt_le, ← Int32.toInt_inj, Int32.toInt_toInt64, ti_m14, ti_m13, ti_m12, ti_m11, ti_m10, ti_m9, ti_m6, ti_m5, ti_m4, ti_m3, ti_m2, ti_m1, ti_0, ti_1, ti_2, ti_3, ti_4, ti_5, ti_6, ti_7, ti_8, ti_9, ti_10, ti_11, ti_12, ti_19, ti_20, ti_21, ti_44, ti_45, ti_48, ti_57, ti_59, ti_60, ti_98, ti_99, ti_100, ti_101, ti_103, ti_108, ti_110, ti_114, ti_127]); omega) | (split <;> omega))
              refine ⟨hi86, ?_⟩
              have hz87 := vlt hi86
              try have f88 : (((it47 20 x4.toNatClampNeg) + 1) : Int32).toInt = ((it47 20 x4.toNatClampNeg)).toInt + 1 := ad32 (a := ((it47 20 x4.toNatClampNeg)).toInt) (b := 1) (rfl) (ti_1) (by omega) (by omega)
              try have f89 : ((x4 + 1) : Int32).toInt = (x4).toInt + 1 := ad32 (a := (x4).toInt) (b := 1) (rfl) (ti_1) (by omega) (by omega)
              exact ih24 ((if x3 < ((it47 20 x4.toNatClampNeg) + 1) then ((it47 20 x4.toNatClampNeg) + 1) else x3)) ((x4 + 1)) _ _ hI44 hK45 (by first | omega | assumption) (by omega)
        have t90 := ti_0
        have t91 := ti_0
        exact ⟨_, lp24 ((9 - ((0 : Int32)).toInt).toNat + 1) ((0 : Int32)) ((0 : Int32)) _ _ hI hKr (by first | omega | assumption) (Nat.lt_succ_self _)⟩
      · try simp only [Int32.lt_iff_toInt_lt, Int32.le_iff_toInt_le, ← Int32.toInt_inj, Int32.toInt_toInt64, ti_m14, ti_m13, ti_m12, ti_m11, ti_m10, ti_m9, ti_m6, ti_m5, ti_m4, ti_m3, ti_m2, ti_m1, ti_0, ti_1, ti_2, ti_3, ti_4, ti_5, ti_6, ti_7, ti_8, ti_9, ti_10, ti_11, ti_12, ti_19, ti_20, ti_21, ti_44, ti_45, ti_48, ti_57, ti_59, ti_60, ti_98, ti_99, ti_100, ti_101, ti_103, ti_108, ti_110, ti_114, ti_127] at c14
        subst hp
        exact ⟨hI, hKr⟩
set_option maxRecDepth 100000 in
theorem s_X8_odds (a1 : Int32) (a2 : Int32) {lg0 : LGt} {it0 : ITt} (hI : I8 lg0 it0) : w_X8_odds a1 a2 (fun (v : Int64) (lg' : LGt) (it' : ITt) => (I8 lg' it' ∧ Kc (fun j => (55 ≤ j ∧ j < 450) ∨ (450 ≤ j ∧ j < 467) ∨ (486 ≤ j ∧ j < 489)) lg0 it0 lg' it'))  lg0 it0 := by
  have hb_a1 := And.intro a1.le_toInt a1.toInt_lt
  have hb_a2 := And.intro a2.le_toInt a2.toInt_lt
  have hKr : Kc (fun j => (55 ≤ j ∧ j < 450) ∨ (450 ≤ j ∧ j < 467) ∨ (486 ≤ j ∧ j < 489)) lg0 it0 lg0 it0 := kc_r
  generalize hp : (fun (v : Int64) (lg' : LGt) (it' : ITt) => (I8 lg' it' ∧ Kc (fun j => (55 ≤ j ∧ j < 450) ∨ (450 ≤ j ∧ j < 467) ∨ (486 ≤ j ∧ j < 489)) lg0 it0 lg' it')) = Pz
  unfold w_X8_odds
  refine ⟨fun c1 => ?_, fun c1 => ?_⟩
  · try simp only [Int32.lt_iff_toInt_lt, Int32.le_iff_toInt_le, ← Int32.toInt_inj, Int32.toInt_toInt64, ti_m14, ti_m13, ti_m12, ti_m11, ti_m10, ti_m9, ti_m6, ti_m5, ti_m4, ti_m3, ti_m2, ti_m1, ti_0, ti_1, ti_2, ti_3, ti_4, ti_5, ti_6, ti_7, ti_8, ti_9, ti_10, ti_11, ti_12, ti_19, ti_20, ti_21, ti_44, ti_45, ti_48, ti_57, ti_59, ti_60, ti_98, ti_99, ti_100, ti_101, ti_103, ti_108, ti_110, ti_114, ti_127] at c1
    subst hp
    exact ⟨hI, hKr⟩
  · try simp only [Int32.lt_iff_toInt_lt, Int32.le_iff_toInt_le, ← Int32.toInt_inj, Int32.toInt_toInt64, ti_m14, ti_m13, ti_m12, ti_m11, ti_m10, ti_m9, ti_m6, ti_m5, ti_m4, ti_m3, ti_m2, ti_m1, ti_0, ti_1, ti_2, ti_3, ti_4, ti_5, ti_6, ti_7, ti_8, ti_9, ti_10, ti_11, ti_12, ti_19, ti_20, ti_21, ti_44, ti_45, ti_48, ti_57, ti_59, ti_60, ti_98, ti_99, ti_100, ti_101, ti_103, ti_108, ti_110, ti_114, ti_127] at c1
    refine ⟨fun c7 => ?_, fun c7 => ?_⟩
    · try simp only [Int32.lt_iff_toInt_lt, Int32.le_iff_toInt_le, ← Int32.toInt_inj, Int32.toInt_toInt64, ti_m14, ti_m13, ti_m12, ti_m11, ti_m10, ti_m9, ti_m6, ti_m5, ti_m4, ti_m3, ti_m2, ti_m1, ti_0, ti_1, ti_2, ti_3, ti_4, ti_5, ti_6, ti_7, ti_8, ti_9, ti_10, ti_11, ti_12, ti_19, ti_20, ti_21, ti_44, ti_45, ti_48, ti_57, ti_59, ti_60, ti_98, ti_99, ti_100, ti_101, ti_103, ti_108, ti_110, ti_114, ti_127] at c7
      subst hp
      exact ⟨hI, hKr⟩
    · try simp only [Int32.lt_iff_toInt_lt, Int32.le_iff_toInt_le, ← Int32.toInt_inj, Int32.toInt_toInt64, ti_m14, ti_m13, ti_m12, ti_m11, ti_m10, ti_m9, ti_m6, ti_m5, ti_m4, ti_m3, ti_m2, ti_m1, ti_0, ti_1, ti_2, ti_3, ti_4, ti_5, ti_6, ti_7, ti_8, ti_9, ti_10, ti_11, ti_12, ti_19, ti_20, ti_21, ti_44, ti_45, ti_48, ti_57, ti_59, ti_60, ti_98, ti_99, ti_100, ti_101, ti_103, ti_108, ti_110, ti_114, ti_127] at c7
      refine ⟨fun c14 => ?_, fun c14 => ?_⟩
      · try simp only [Int32.lt_iff_toInt_lt, Int32.le_iff_toInt_le, ← Int32.toInt_inj, Int32.toInt_toInt64, ti_m14, ti_m13, ti_m12, ti_m11, ti_m10, ti_m9, ti_m6, ti_m5, ti_m4, ti_m3, ti_m2, ti_m1, ti_0, ti_1, ti_2, ti_3, ti_4, ti_5, ti_6, ti_7, ti_8, ti_9, ti_10, ti_11, ti_12, ti_19, ti_20, ti_21, ti_44, ti_45, ti_48, ti_57, ti_59, ti_60, ti_98, ti_99, ti_100, ti_101, ti_103, ti_108, ti_110, ti_114, ti_127] at c14
        have lp26 : ∀ (n : Nat) (x3 : Int32) (x4 : Int32) (lg : LGt) (it : ITt), I8 lg it → Kc (fun j => (55 ≤ j ∧ j < 450) ∨ (450 ≤ j ∧ j < 467) ∨ (486 ≤ j ∧ j < 489)) lg0 it0 lg it → ((0 ≤ (x4).toInt)) → (6 - (x4).toInt).toNat < n → w_X8_odds_b26 a1 a2 Pz  n x3 x4 lg it := by
          intro n26
          induction n26 with
          | zero => intro x3 x4 lg it _ _ _ hn; exact absurd hn (Nat.not_lt_zero _)
          | succ n26 ih26 =>
            intro x3 x4 lg33 it34 hI31 hK32 hv hn
            unfold w_X8_odds_b26
            have hv26_0 := hv
            refine ⟨fun c29 => ?_, fun c29 => ?_⟩
            · try simp only [Int32.lt_iff_toInt_lt, Int32.le_iff_toInt_le, ← Int32.toInt_inj, Int32.toInt_toInt64, ti_m14, ti_m13, ti_m12, ti_m11, ti_m10, ti_m9, ti_m6, ti_m5, ti_m4, ti_m3, ti_m2, ti_m1, ti_0, ti_1, ti_2, ti_3, ti_4, ti_5, ti_6, ti_7, ti_8, ti_9, ti_10, ti_11, ti_12, ti_19, ti_20, ti_21, ti_44, ti_45, ti_48, ti_57, ti_59, ti_60, ti_98, ti_99, ti_100, ti_101, ti_103, ti_108, ti_110, ti_114, ti_127] at c29
              intro q35 em_q35 lg36 em_lg36 it37 em_it37
              have hI38 : I8 lg36 it37 := by rw [em_it37]; exact i8_u hI31 (ok8_1 (oq_486) (fun _ => by rw [em_q35]; exact stF_01 _ _ _ _ _))
              have hK39 : Kc (fun j => (55 ≤ j ∧ j < 450) ∨ (450 ≤ j ∧ j < 467) ∨ (486 ≤ j ∧ j < 489)) lg0 it0 lg36 it37 := by rw [em_lg36, em_it37]; exact kc_f (by first | omega | (dsimp only; omega)) hK32
              subst hp
              exact ⟨hI38, hK39⟩
            · try simp only [Int32.lt_iff_toInt_lt, Int32.le_iff_toInt_le, ← Int32.toInt_inj, Int32.toInt_toInt64, ti_m14, ti_m13, ti_m12, ti_m11, ti_m10, ti_m9, ti_m6, ti_m5, ti_m4, ti_m3, ti_m2, ti_m1, ti_0, ti_1, ti_2, ti_3, ti_4, ti_5, ti_6, ti_7, ti_8, ti_9, ti_10, ti_11, ti_12, ti_19, ti_20, ti_21, ti_44, ti_45, ti_48, ti_57, ti_59, ti_60, ti_98, ti_99, ti_100, ti_101, ti_103, ti_108, ti_110, ti_114, ti_127] at c29
              refine ⟨_, s_X3_become (in_rb_450) (in_rb_2)  hI31 , ?_⟩
              intro lg40 it41 hq
              obtain ⟨hI42, hK43⟩ := hq
              have hK44 : Kc (fun j => (55 ≤ j ∧ j < 450) ∨ (450 ≤ j ∧ j < 467) ∨ (486 ≤ j ∧ j < 489)) lg0 it0 lg40 it41 := kc_t hK32 hK43 (fun j hj => by first | omega | exact False.elim hj | (dsimp only at hj ⊢; omega))
              intro it47 em48
              have hI49 : I8 lg40 it47 := by rw [em48]; exact i8_u hI42 (ok8_3 (oq_450) (fun q => absurd q (by decide)))
              have hK50 : Kc (fun j => (55 ≤ j ∧ j < 450) ∨ (450 ≤ j ∧ j < 467) ∨ (486 ≤ j ∧ j < 489)) lg0 it0 lg40 it47 := by rw [em48]; exact kc_u (by first | omega | (dsimp only; omega)) hK44
              refine ⟨_, s_X0_work (in_rb_450) (a1) hI49 , ?_⟩
              intro lg51 it52 hq
              obtain ⟨hI53, hK54⟩ := hq
              have hK55 : Kc (fun j => (55 ≤ j ∧ j < 450) ∨ (450 ≤ j ∧ j < 467) ∨ (486 ≤ j ∧ j < 489)) lg0 it0 lg51 it52 := kc_t hK50 hK54 (fun j hj => by first | omega | exact False.elim hj | (dsimp only at hj ⊢; omega))
              have f58 : 0 ≤ (it52 55 3).toInt ∧ (it52 55 3).toInt ≤ 20 := i8_0 hI53
              refine ⟨fun c75 => ?_, fun c75 => ?_⟩
              · try simp only [Int32.lt_iff_toInt_lt, Int32.le_iff_toInt_le, ← Int32.toInt_inj, Int32.toInt_toInt64, ti_m14, ti_m13, ti_m12, ti_m11, ti_m10, ti_m9, ti_m6, ti_m5, ti_m4, ti_m3, ti_m2, ti_m1, ti_0, ti_1, ti_2, ti_3, ti_4, ti_5, ti_6, ti_7, ti_8, ti_9, ti_10, ti_11, ti_12, ti_19, ti_20, ti_21, ti_44, ti_45, ti_48, ti_57, ti_59, ti_60, ti_98, ti_99, ti_100, ti_101, ti_103, ti_108, ti_110, ti_114, ti_127] at c75
                try have f59 : ((x4 + 1) : Int32).toInt = (x4).toInt + 1 := ad32 (a := (x4).toInt) (b := 1) (rfl) (ti_1) (by omega) (by omega)
                exact ih26 (x3) ((x4 + 1)) _ _ hI53 hK55 (by first | omega | assumption) (by omega)
              · try simp only [Int32.lt_iff_toInt_lt, Int32.le_iff_toInt_le, ← Int32.toInt_inj, Int32.toInt_toInt64, ti_m14, ti_m13, ti_m12, ti_m11, ti_m10, ti_m9, ti_m6, ti_m5, ti_m4, ti_m3, ti_m2, ti_m1, ti_0, ti_1, ti_2, ti_3, ti_4, ti_5, ti_6, ti_7, ti_8, ti_9, ti_10, ti_11, ti_12, ti_19, ti_20, ti_21, ti_44, ti_45, ti_48, ti_57, ti_59, ti_60, ti_98, ti_99, ti_100, ti_101, ti_103, ti_108, ti_110, ti_114, ti_127] at c75
                try have f60 : ((x3 + 1) : Int32).toInt = (x3).toInt + 1 := ad32 (a := (x3).toInt) (b := 1) (rfl) (ti_1) (by omega) (by omega)
                try have f61 : ((x4 + 1) : Int32).toInt = (x4).toInt + 1 := ad32 (a := (x4).toInt) (b := 1) (rfl) (ti_1) (by omega) (by omega)
                exact ih26 ((x3 + 1)) ((x4 + 1)) _ _ hI53 hK55 (by first | omega | assumption) (by omega)
        have t62 := ti_0
        have t63 := ti_0
        exact ⟨_, lp26 ((6 - ((0 : Int32)).toInt).toNat + 1) ((0 : Int32)) ((0 : Int32)) _ _ hI hKr (by first | omega | assumption) (Nat.lt_succ_self _)⟩
      · try simp only [Int32.lt_iff_toInt_lt, Int32.le_iff_toInt_le, ← Int32.toInt_inj, Int32.toInt_toInt64, ti_m14, ti_m13, ti_m12, ti_m11, ti_m10, ti_m9, ti_m6, ti_m5, ti_m4, ti_m3, ti_m2, ti_m1, ti_0, ti_1, ti_2, ti_3, ti_4, ti_5, ti_6, ti_7, ti_8, ti_9, ti_10, ti_11, ti_12, ti_19, ti_20, ti_21, ti_44, ti_45, ti_48, ti_57, ti_59, ti_60, ti_98, ti_99, ti_100, ti_101, ti_103, ti_108, ti_110, ti_114, ti_127] at c14
        subst hp
        exact ⟨hI, hKr⟩
set_option maxRecDepth 100000 in
theorem s_X8_mean (a1 : Int32) {lg0 : LGt} {it0 : ITt} (hI : I8 lg0 it0) : w_X8_mean a1 (fun (v : Int64) (lg' : LGt) (it' : ITt) => (I8 lg' it' ∧ Kc (fun j => (486 ≤ j ∧ j < 489)) lg0 it0 lg' it'))  lg0 it0 := by
  have hb_a1 := And.intro a1.le_toInt a1.toInt_lt
  have hKr : Kc (fun j => (486 ≤ j ∧ j < 489)) lg0 it0 lg0 it0 := kc_r
  generalize hp : (fun (v : Int64) (lg' : LGt) (it' : ITt) => (I8 lg' it' ∧ Kc (fun j => (486 ≤ j ∧ j < 489)) lg0 it0 lg' it')) = Pz
  unfold w_X8_mean
  have f13 : 0 ≤ (it0 2 0).toInt ∧ (it0 2 0).toInt ≤ 6 := i8_3 hI (oq_2)
  refine ⟨fun c12 => ?_, fun c12 => ?_⟩
  · try simp only [Int32.lt_iff_toInt_lt, Int32.le_iff_toInt_le, ← Int32.toInt_inj, Int32.toInt_toInt64, ti_m14, ti_m13, ti_m12, ti_m11, ti_m10, ti_m9, ti_m6, ti_m5, ti_m4, ti_m3, ti_m2, ti_m1, ti_0, ti_1, ti_2, ti_3, ti_4, ti_5, ti_6, ti_7, ti_8, ti_9, ti_10, ti_11, ti_12, ti_19, ti_20, ti_21, ti_44, ti_45, ti_48, ti_57, ti_59, ti_60, ti_98, ti_99, ti_100, ti_101, ti_103, ti_108, ti_110, ti_114, ti_127] at c12
    subst hp
    exact ⟨hI, hKr⟩
  · try simp only [Int32.lt_iff_toInt_lt, Int32.le_iff_toInt_le, ← Int32.toInt_inj, Int32.toInt_toInt64, ti_m14, ti_m13, ti_m12, ti_m11, ti_m10, ti_m9, ti_m6, ti_m5, ti_m4, ti_m3, ti_m2, ti_m1, ti_0, ti_1, ti_2, ti_3, ti_4, ti_5, ti_6, ti_7, ti_8, ti_9, ti_10, ti_11, ti_12, ti_19, ti_20, ti_21, ti_44, ti_45, ti_48, ti_57, ti_59, ti_60, ti_98, ti_99, ti_100, ti_101, ti_103, ti_108, ti_110, ti_114, ti_127] at c12
    refine ⟨fun c19 => ?_, fun c19 => ?_⟩
    · try simp only [Int32.lt_iff_toInt_lt, Int32.le_iff_toInt_le, ← Int32.toInt_inj, Int32.toInt_toInt64, ti_m14, ti_m13, ti_m12, ti_m11, ti_m10, ti_m9, ti_m6, ti_m5, ti_m4, ti_m3, ti_m2, ti_m1, ti_0, ti_1, ti_2, ti_3, ti_4, ti_5, ti_6, ti_7, ti_8, ti_9, ti_10, ti_11, ti_12, ti_19, ti_20, ti_21, ti_44, ti_45, ti_48, ti_57, ti_59, ti_60, ti_98, ti_99, ti_100, ti_101, ti_103, ti_108, ti_110, ti_114, ti_127] at c19
      have lp31 : ∀ (n : Nat) (x3 : Int32) (x4 : Int32) (lg : LGt) (it : ITt), I8 lg it → Kc (fun j => (486 ≤ j ∧ j < 489)) lg0 it0 lg it → ((0 ≤ (x4).toInt)) → (7 - (x4).toInt).toNat < n → w_X8_mean_b31 a1 Pz  n x3 x4 lg it := by
        intro n31
        induction n31 with
        | zero => intro x3 x4 lg it _ _ _ hn; exact absurd hn (Nat.not_lt_zero _)
        | succ n31 ih31 =>
          intro x3 x4 lg16 it17 hI14 hK15 hv hn
          unfold w_X8_mean_b31
          have hv31_0 := hv
          have f18 : 0 ≤ (it17 2 0).toInt ∧ (it17 2 0).toInt ≤ 6 := i8_3 hI14 (oq_2)
          refine ⟨fun c37 => ?_, fun c37 => ?_⟩
          · try simp only [Int32.lt_iff_toInt_lt, Int32.le_iff_toInt_le, ← Int32.toInt_inj, Int32.toInt_toInt64, ti_m14, ti_m13, ti_m12, ti_m11, ti_m10, ti_m9, ti_m6, ti_m5, ti_m4, ti_m3, ti_m2, ti_m1, ti_0, ti_1, ti_2, ti_3, ti_4, ti_5, ti_6, ti_7, ti_8, ti_9, ti_10, ti_11, ti_12, ti_19, ti_20, ti_21, ti_44, ti_45, ti_48, ti_57, ti_59, ti_60, ti_98, ti_99, ti_100, ti_101, ti_103, ti_108, ti_110, ti_114, ti_127] at c37
            intro q19 em_q19 lg20 em_lg20 it21 em_it21
            have hI22 : I8 lg20 it21 := by rw [em_it21]; exact i8_u hI14 (ok8_1 (oq_486) (fun _ => by rw [em_q19]; exact stF_01 _ _ _ _ _))
            have hK23 : Kc (fun j => (486 ≤ j ∧ j < 489)) lg0 it0 lg20 it21 := by rw [em_lg20, em_it21]; exact kc_f (by first | omega | (dsimp only; omega)) hK15
            have e24 : (it21 2 0).toInt = (it17 2 0).toInt := by rw [em_it21]; exact congrArg Int32.toInt (congrFun (u2_row (by decide)) 0)
            subst hp
            exact ⟨hI22, hK23⟩
          · try simp only [Int32.lt_iff_toInt_lt, Int32.le_iff_toInt_le, ← Int32.toInt_inj, Int32.toInt_toInt64, ti_m14, ti_m13, ti_m12, ti_m11, ti_m10, ti_m9, ti_m6, ti_m5, ti_m4, ti_m3, ti_m2, ti_m1, ti_0, ti_1, ti_2, ti_3, ti_4, ti_5, ti_6, ti_7, ti_8, ti_9, ti_10, ti_11, ti_12, ti_19, ti_20, ti_21, ti_44, ti_45, ti_48, ti_57, ti_59, ti_60, ti_98, ti_99, ti_100, ti_101, ti_103, ti_108, ti_110, ti_114, ti_127] at c37
            have hi25 : vp_in x4 6 := vp_of (by first | omega | ((try simp only [Int32.lt_iff_toInt_lt, Int32.le_iff_toInt_le, ← Int32.toInt_inj, Int32.toInt_toInt64, ti_m14, ti_m13, ti_m12, ti_m11, ti_m10, ti_m9, ti_m6, ti_m5, ti_m4, ti_m3, ti_m2, ti_m1, ti_0, ti_1, ti_2, ti_3, ti_4, ti_5, ti_6, ti_7, ti_8, ti_9, ti_10, ti_11, ti_12, ti_19, ti_20, ti_21, ti_44, ti_45, ti_48, ti_57, ti_59, ti_60, ti_98, ti_99, ti_100, ti_101, ti_103, ti_108, ti_110, ti_114, ti_127]); omega) | (split <;> omega)) (by first | omega | ((try simp only [Int32.lt_iff_toInt_lt, Int32.le_iff_toInt_le, ← Int32.toInt_inj, Int32.toInt_toInt64, ti_m14, ti_m13, ti_m12, ti_m11, ti_m10, ti_m9, ti_m6, ti_m5, ti_m4, ti_m3, ti_m2, ti_m1, ti_0, ti_1, ti_2, ti_3, ti_4, ti_5, ti_6, ti_7, ti_8, ti_9, ti_10, ti_11, ti_12, ti_19, ti_20, ti_21, ti_44, ti_45, ti_48, ti_57, ti_59, ti_60, ti_98, ti_99, ti_100, ti_101, ti_103, ti_108, ti_110, ti_114, ti_127]); omega) | (split <;> omega))
            refine ⟨hi25, ?_⟩
            have hz26 := vlt hi25
            try have f27 : ((x3 + (it17 3 x4.toNatClampNeg)) : Int32).toInt = (x3).toInt + ((it17 3 x4.toNatClampNeg)).toInt := ad32 (a := (x3).toInt) (b := ((it17 3 x4.toNatClampNeg)).toInt) (rfl) (rfl) (by omega) (by omega)
            try have f28 : ((x4 + 1) : Int32).toInt = (x4).toInt + 1 := ad32 (a := (x4).toInt) (b := 1) (rfl) (ti_1) (by omega) (by omega)
            exact ih31 ((x3 + (it17 3 x4.toNatClampNeg))) ((x4 + 1)) _ _ hI14 hK15 (by first | omega | assumption) (by omega)
      have t29 := ti_0
      have t30 := ti_0
      exact ⟨_, lp31 ((7 - ((0 : Int32)).toInt).toNat + 1) ((0 : Int32)) ((0 : Int32)) _ _ hI hKr (by first | omega | assumption) (Nat.lt_succ_self _)⟩
    · try simp only [Int32.lt_iff_toInt_lt, Int32.le_iff_toInt_le, ← Int32.toInt_inj, Int32.toInt_toInt64, ti_m14, ti_m13, ti_m12, ti_m11, ti_m10, ti_m9, ti_m6, ti_m5, ti_m4, ti_m3, ti_m2, ti_m1, ti_0, ti_1, ti_2, ti_3, ti_4, ti_5, ti_6, ti_7, ti_8, ti_9, ti_10, ti_11, ti_12, ti_19, ti_20, ti_21, ti_44, ti_45, ti_48, ti_57, ti_59, ti_60, ti_98, ti_99, ti_100, ti_101, ti_103, ti_108, ti_110, ti_114, ti_127] at c19
      subst hp
      exact ⟨hI, hKr⟩
set_option maxRecDepth 100000 in
theorem s_X8_event (a1 : Int32) (a2 : Int32) {lg0 : LGt} {it0 : ITt} (hI : I8 lg0 it0) : w_X8_event a1 a2 (fun (v : Int32) (lg' : LGt) (it' : ITt) => (I8 lg' it' ∧ Kc (fun j => (22 ≤ j ∧ j < 25)) lg0 it0 lg' it'))  lg0 it0 := by
  have hb_a1 := And.intro a1.le_toInt a1.toInt_lt
  have hb_a2 := And.intro a2.le_toInt a2.toInt_lt
  have hKr : Kc (fun j => (22 ≤ j ∧ j < 25)) lg0 it0 lg0 it0 := kc_r
  generalize hp : (fun (v : Int32) (lg' : LGt) (it' : ITt) => (I8 lg' it' ∧ Kc (fun j => (22 ≤ j ∧ j < 25)) lg0 it0 lg' it')) = Pz
  unfold w_X8_event
  refine ⟨fun c2 => ?_, fun c2 => ?_⟩
  · try simp only [Int32.lt_iff_toInt_lt, Int32.le_iff_toInt_le, ← Int32.toInt_inj, Int32.toInt_toInt64, ti_m14, ti_m13, ti_m12, ti_m11, ti_m10, ti_m9, ti_m6, ti_m5, ti_m4, ti_m3, ti_m2, ti_m1, ti_0, ti_1, ti_2, ti_3, ti_4, ti_5, ti_6, ti_7, ti_8, ti_9, ti_10, ti_11, ti_12, ti_19, ti_20, ti_21, ti_44, ti_45, ti_48, ti_57, ti_59, ti_60, ti_98, ti_99, ti_100, ti_101, ti_103, ti_108, ti_110, ti_114, ti_127] at c2
    refine ⟨fun c19 => ?_, fun c19 => ?_⟩
    · try simp only [Int32.lt_iff_toInt_lt, Int32.le_iff_toInt_le, ← Int32.toInt_inj, Int32.toInt_toInt64, ti_m14, ti_m13, ti_m12, ti_m11, ti_m10, ti_m9, ti_m6, ti_m5, ti_m4, ti_m3, ti_m2, ti_m1, ti_0, ti_1, ti_2, ti_3, ti_4, ti_5, ti_6, ti_7, ti_8, ti_9, ti_10, ti_11, ti_12, ti_19, ti_20, ti_21, ti_44, ti_45, ti_48, ti_57, ti_59, ti_60, ti_98, ti_99, ti_100, ti_101, ti_103, ti_108, ti_110, ti_114, ti_127] at c19
      subst hp
      exact ⟨hI, hKr⟩
    · try simp only [Int32.lt_iff_toInt_lt, Int32.le_iff_toInt_le, ← Int32.toInt_inj, Int32.toInt_toInt64, ti_m14, ti_m13, ti_m12, ti_m11, ti_m10, ti_m9, ti_m6, ti_m5, ti_m4, ti_m3, ti_m2, ti_m1, ti_0, ti_1, ti_2, ti_3, ti_4, ti_5, ti_6, ti_7, ti_8, ti_9, ti_10, ti_11, ti_12, ti_19, ti_20, ti_21, ti_44, ti_45, ti_48, ti_57, ti_59, ti_60, ti_98, ti_99, ti_100, ti_101, ti_103, ti_108, ti_110, ti_114, ti_127] at c19
      refine ⟨fun c24 => ?_, fun c24 => ?_⟩
      · try simp only [Int32.lt_iff_toInt_lt, Int32.le_iff_toInt_le, ← Int32.toInt_inj, Int32.toInt_toInt64, ti_m14, ti_m13, ti_m12, ti_m11, ti_m10, ti_m9, ti_m6, ti_m5, ti_m4, ti_m3, ti_m2, ti_m1, ti_0, ti_1, ti_2, ti_3, ti_4, ti_5, ti_6, ti_7, ti_8, ti_9, ti_10, ti_11, ti_12, ti_19, ti_20, ti_21, ti_44, ti_45, ti_48, ti_57, ti_59, ti_60, ti_98, ti_99, ti_100, ti_101, ti_103, ti_108, ti_110, ti_114, ti_127] at c24
        subst hp
        exact ⟨hI, hKr⟩
      · try simp only [Int32.lt_iff_toInt_lt, Int32.le_iff_toInt_le, ← Int32.toInt_inj, Int32.toInt_toInt64, ti_m14, ti_m13, ti_m12, ti_m11, ti_m10, ti_m9, ti_m6, ti_m5, ti_m4, ti_m3, ti_m2, ti_m1, ti_0, ti_1, ti_2, ti_3, ti_4, ti_5, ti_6, ti_7, ti_8, ti_9, ti_10, ti_11, ti_12, ti_19, ti_20, ti_21, ti_44, ti_45, ti_48, ti_57, ti_59, ti_60, ti_98, ti_99, ti_100, ti_101, ti_103, ti_108, ti_110, ti_114, ti_127] at c24
        refine ⟨fun c28 => ?_, fun c28 => ?_⟩
        · try simp only [Int32.lt_iff_toInt_lt, Int32.le_iff_toInt_le, ← Int32.toInt_inj, Int32.toInt_toInt64, ti_m14, ti_m13, ti_m12, ti_m11, ti_m10, ti_m9, ti_m6, ti_m5, ti_m4, ti_m3, ti_m2, ti_m1, ti_0, ti_1, ti_2, ti_3, ti_4, ti_5, ti_6, ti_7, ti_8, ti_9, ti_10, ti_11, ti_12, ti_19, ti_20, ti_21, ti_44, ti_45, ti_48, ti_57, ti_59, ti_60, ti_98, ti_99, ti_100, ti_101, ti_103, ti_108, ti_110, ti_114, ti_127] at c28
          unfold w_X8_event_b41
          refine ⟨fun c43 => ?_, fun c43 => ?_⟩
          · try simp only [Int32.lt_iff_toInt_lt, Int32.le_iff_toInt_le, ← Int32.toInt_inj, Int32.toInt_toInt64, ti_m14, ti_m13, ti_m12, ti_m11, ti_m10, ti_m9, ti_m6, ti_m5, ti_m4, ti_m3, ti_m2, ti_m1, ti_0, ti_1, ti_2, ti_3, ti_4, ti_5, ti_6, ti_7, ti_8, ti_9, ti_10, ti_11, ti_12, ti_19, ti_20, ti_21, ti_44, ti_45, ti_48, ti_57, ti_59, ti_60, ti_98, ti_99, ti_100, ti_101, ti_103, ti_108, ti_110, ti_114, ti_127] at c43
            unfold w_X8_event_b50
            refine ⟨fun c52 => ?_, fun c52 => ?_⟩
            · try simp only [Int32.lt_iff_toInt_lt, Int32.le_iff_toInt_le, ← Int32.toInt_inj, Int32.toInt_toInt64, ti_m14, ti_m13, ti_m12, ti_m11, ti_m10, ti_m9, ti_m6, ti_m5, ti_m4, ti_m3, ti_m2, ti_m1, ti_0, ti_1, ti_2, ti_3, ti_4, ti_5, ti_6, ti_7, ti_8, ti_9, ti_10, ti_11, ti_12, ti_19, ti_20, ti_21, ti_44, ti_45, ti_48, ti_57, ti_59, ti_60, ti_98, ti_99, ti_100, ti_101, ti_103, ti_108, ti_110, ti_114, ti_127] at c52
              unfold w_X8_event_b62
              refine ⟨fun c64 => ?_, fun c64 => ?_⟩
              · try simp only [Int32.lt_iff_toInt_lt, Int32.le_iff_toInt_le, ← Int32.toInt_inj, Int32.toInt_toInt64, ti_m14, ti_m13, ti_m12, ti_m11, ti_m10, ti_m9, ti_m6, ti_m5, ti_m4, ti_m3, ti_m2, ti_m1, ti_0, ti_1, ti_2, ti_3, ti_4, ti_5, ti_6, ti_7, ti_8, ti_9, ti_10, ti_11, ti_12, ti_19, ti_20, ti_21, ti_44, ti_45, ti_48, ti_57, ti_59, ti_60, ti_98, ti_99, ti_100, ti_101, ti_103, ti_108, ti_110, ti_114, ti_127] at c64
                unfold w_X8_event_b84
                unfold w_X8_event_b85
                refine ⟨fun c87 => ?_, fun c87 => ?_⟩
                · skip
                  refine ⟨_, s_X2_add (in_pb_22) (a1) (a2) hI , ?_⟩
                  intro v41 lg36 it37 hq
                  obtain ⟨hI38, hK39⟩ := hq
                  have hK40 : Kc (fun j => (22 ≤ j ∧ j < 25)) lg0 it0 lg36 it37 := kc_t hKr hK39 (fun j hj => by first | omega | exact False.elim hj | (dsimp only at hj ⊢; omega))
                  subst hp
                  exact ⟨hI38, hK40⟩
                · exact absurd c87 (by decide)
              · try simp only [Int32.lt_iff_toInt_lt, Int32.le_iff_toInt_le, ← Int32.toInt_inj, Int32.toInt_toInt64, ti_m14, ti_m13, ti_m12, ti_m11, ti_m10, ti_m9, ti_m6, ti_m5, ti_m4, ti_m3, ti_m2, ti_m1, ti_0, ti_1, ti_2, ti_3, ti_4, ti_5, ti_6, ti_7, ti_8, ti_9, ti_10, ti_11, ti_12, ti_19, ti_20, ti_21, ti_44, ti_45, ti_48, ti_57, ti_59, ti_60, ti_98, ti_99, ti_100, ti_101, ti_103, ti_108, ti_110, ti_114, ti_127] at c64
                refine ⟨fun c71 => ?_, fun c71 => ?_⟩
                · try simp only [Int32.lt_iff_toInt_lt, Int32.le_iff_toInt_le, ← Int32.toInt_inj, Int32.toInt_toInt64, ti_m14, ti_m13, ti_m12, ti_m11, ti_m10, ti_m9, ti_m6, ti_m5, ti_m4, ti_m3, ti_m2, ti_m1, ti_0, ti_1, ti_2, ti_3, ti_4, ti_5, ti_6, ti_7, ti_8, ti_9, ti_10, ti_11, ti_12, ti_19, ti_20, ti_21, ti_44, ti_45, ti_48, ti_57, ti_59, ti_60, ti_98, ti_99, ti_100, ti_101, ti_103, ti_108, ti_110, ti_114, ti_127] at c71
                  unfold w_X8_event_b84
                  unfold w_X8_event_b85
                  refine ⟨fun c87 => ?_, fun c87 => ?_⟩
                  · skip
                    refine ⟨_, s_X2_add (in_pb_22) (a1) (a2) hI , ?_⟩
                    intro v48 lg43 it44 hq
                    obtain ⟨hI45, hK46⟩ := hq
                    have hK47 : Kc (fun j => (22 ≤ j ∧ j < 25)) lg0 it0 lg43 it44 := kc_t hKr hK46 (fun j hj => by first | omega | exact False.elim hj | (dsimp only at hj ⊢; omega))
                    subst hp
                    exact ⟨hI45, hK47⟩
                  · exact absurd c87 (by decide)
                · try simp only [Int32.lt_iff_toInt_lt, Int32.le_iff_toInt_le, ← Int32.toInt_inj, Int32.toInt_toInt64, ti_m14, ti_m13, ti_m12, ti_m11, ti_m10, ti_m9, ti_m6, ti_m5, ti_m4, ti_m3, ti_m2, ti_m1, ti_0, ti_1, ti_2, ti_3, ti_4, ti_5, ti_6, ti_7, ti_8, ti_9, ti_10, ti_11, ti_12, ti_19, ti_20, ti_21, ti_44, ti_45, ti_48, ti_57, ti_59, ti_60, ti_98, ti_99, ti_100, ti_101, ti_103, ti_108, ti_110, ti_114, ti_127] at c71
                  refine ⟨fun c77 => ?_, fun c77 => ?_⟩
                  · try simp only [Int32.lt_iff_toInt_lt, Int32.le_iff_toInt_le, ← Int32.toInt_inj, Int32.toInt_toInt64, ti_m14, ti_m13, ti_m12, ti_m11, ti_m10, ti_m9, ti_m6, ti_m5, ti_m4, ti_m3, ti_m2, ti_m1, ti_0, ti_1, ti_2, ti_3, ti_4, ti_5, ti_6, ti_7, ti_8, ti_9, ti_10, ti_11, ti_12, ti_19, ti_20, ti_21, ti_44, ti_45, ti_48, ti_57, ti_59, ti_60, ti_98, ti_99, ti_100, ti_101, ti_103, ti_108, ti_110, ti_114, ti_127] at c77
                    unfold w_X8_event_b84
                    unfold w_X8_event_b85
                    refine ⟨fun c87 => ?_, fun c87 => ?_⟩
                    · skip
                      refine ⟨_, s_X2_add (in_pb_22) (a1) (a2) hI , ?_⟩
                      intro v55 lg50 it51 hq
                      obtain ⟨hI52, hK53⟩ := hq
                      have hK54 : Kc (fun j => (22 ≤ j ∧ j < 25)) lg0 it0 lg50 it51 := kc_t hKr hK53 (fun j hj => by first | omega | exact False.elim hj | (dsimp only at hj ⊢; omega))
                      subst hp
                      exact ⟨hI52, hK54⟩
                    · exact absurd c87 (by decide)
                  · try simp only [Int32.lt_iff_toInt_lt, Int32.le_iff_toInt_le, ← Int32.toInt_inj, Int32.toInt_toInt64, ti_m14, ti_m13, ti_m12, ti_m11, ti_m10, ti_m9, ti_m6, ti_m5, ti_m4, ti_m3, ti_m2, ti_m1, ti_0, ti_1, ti_2, ti_3, ti_4, ti_5, ti_6, ti_7, ti_8, ti_9, ti_10, ti_11, ti_12, ti_19, ti_20, ti_21, ti_44, ti_45, ti_48, ti_57, ti_59, ti_60, ti_98, ti_99, ti_100, ti_101, ti_103, ti_108, ti_110, ti_114, ti_127] at c77
                    unfold w_X8_event_b80
                    unfold w_X8_event_b85
                    refine ⟨fun c87 => ?_, fun c87 => ?_⟩
                    · exact absurd c87 (by decide)
                    · skip
                      subst hp
                      exact ⟨hI, hKr⟩
            · try simp only [Int32.lt_iff_toInt_lt, Int32.le_iff_toInt_le, ← Int32.toInt_inj, Int32.toInt_toInt64, ti_m14, ti_m13, ti_m12, ti_m11, ti_m10, ti_m9, ti_m6, ti_m5, ti_m4, ti_m3, ti_m2, ti_m1, ti_0, ti_1, ti_2, ti_3, ti_4, ti_5, ti_6, ti_7, ti_8, ti_9, ti_10, ti_11, ti_12, ti_19, ti_20, ti_21, ti_44, ti_45, ti_48, ti_57, ti_59, ti_60, ti_98, ti_99, ti_100, ti_101, ti_103, ti_108, ti_110, ti_114, ti_127] at c52
              refine ⟨fun c59 => ?_, fun c59 => ?_⟩
              · try simp only [Int32.lt_iff_toInt_lt, Int32.le_iff_toInt_le, ← Int32.toInt_inj, Int32.toInt_toInt64, ti_m14, ti_m13, ti_m12, ti_m11, ti_m10, ti_m9, ti_m6, ti_m5, ti_m4, ti_m3, ti_m2, ti_m1, ti_0, ti_1, ti_2, ti_3, ti_4, ti_5, ti_6, ti_7, ti_8, ti_9, ti_10, ti_11, ti_12, ti_19, ti_20, ti_21, ti_44, ti_45, ti_48, ti_57, ti_59, ti_60, ti_98, ti_99, ti_100, ti_101, ti_103, ti_108, ti_110, ti_114, ti_127] at c59
                unfold w_X8_event_b80
                unfold w_X8_event_b85
                refine ⟨fun c87 => ?_, fun c87 => ?_⟩
                · exact absurd c87 (by decide)
                · skip
                  subst hp
                  exact ⟨hI, hKr⟩
              · try simp only [Int32.lt_iff_toInt_lt, Int32.le_iff_toInt_le, ← Int32.toInt_inj, Int32.toInt_toInt64, ti_m14, ti_m13, ti_m12, ti_m11, ti_m10, ti_m9, ti_m6, ti_m5, ti_m4, ti_m3, ti_m2, ti_m1, ti_0, ti_1, ti_2, ti_3, ti_4, ti_5, ti_6, ti_7, ti_8, ti_9, ti_10, ti_11, ti_12, ti_19, ti_20, ti_21, ti_44, ti_45, ti_48, ti_57, ti_59, ti_60, ti_98, ti_99, ti_100, ti_101, ti_103, ti_108, ti_110, ti_114, ti_127] at c59
                unfold w_X8_event_b62
                refine ⟨fun c64 => ?_, fun c64 => ?_⟩
                · try simp only [Int32.lt_iff_toInt_lt, Int32.le_iff_toInt_le, ← Int32.toInt_inj, Int32.toInt_toInt64, ti_m14, ti_m13, ti_m12, ti_m11, ti_m10, ti_m9, ti_m6, ti_m5, ti_m4, ti_m3, ti_m2, ti_m1, ti_0, ti_1, ti_2, ti_3, ti_4, ti_5, ti_6, ti_7, ti_8, ti_9, ti_10, ti_11, ti_12, ti_19, ti_20, ti_21, ti_44, ti_45, ti_48, ti_57, ti_59, ti_60, ti_98, ti_99, ti_100, ti_101, ti_103, ti_108, ti_110, ti_114, ti_127] at c64
                  unfold w_X8_event_b84
                  unfold w_X8_event_b85
                  refine ⟨fun c87 => ?_, fun c87 => ?_⟩
                  · skip
                    refine ⟨_, s_X2_add (in_pb_22) (a1) (a2) hI , ?_⟩
                    intro v62 lg57 it58 hq
                    obtain ⟨hI59, hK60⟩ := hq
                    have hK61 : Kc (fun j => (22 ≤ j ∧ j < 25)) lg0 it0 lg57 it58 := kc_t hKr hK60 (fun j hj => by first | omega | exact False.elim hj | (dsimp only at hj ⊢; omega))
                    subst hp
                    exact ⟨hI59, hK61⟩
                  · exact absurd c87 (by decide)
                · try simp only [Int32.lt_iff_toInt_lt, Int32.le_iff_toInt_le, ← Int32.toInt_inj, Int32.toInt_toInt64, ti_m14, ti_m13, ti_m12, ti_m11, ti_m10, ti_m9, ti_m6, ti_m5, ti_m4, ti_m3, ti_m2, ti_m1, ti_0, ti_1, ti_2, ti_3, ti_4, ti_5, ti_6, ti_7, ti_8, ti_9, ti_10, ti_11, ti_12, ti_19, ti_20, ti_21, ti_44, ti_45, ti_48, ti_57, ti_59, ti_60, ti_98, ti_99, ti_100, ti_101, ti_103, ti_108, ti_110, ti_114, ti_127] at c64
                  refine ⟨fun c71 => ?_, fun c71 => ?_⟩
                  · try simp only [Int32.lt_iff_toInt_lt, Int32.le_iff_toInt_le, ← Int32.toInt_inj, Int32.toInt_toInt64, ti_m14, ti_m13, ti_m12, ti_m11, ti_m10, ti_m9, ti_m6, ti_m5, ti_m4, ti_m3, ti_m2, ti_m1, ti_0, ti_1, ti_2, ti_3, ti_4, ti_5, ti_6, ti_7, ti_8, ti_9, ti_10, ti_11, ti_12, ti_19, ti_20, ti_21, ti_44, ti_45, ti_48, ti_57, ti_59, ti_60, ti_98, ti_99, ti_100, ti_101, ti_103, ti_108, ti_110, ti_114, ti_127] at c71
                    unfold w_X8_event_b84
                    unfold w_X8_event_b85
                    refine ⟨fun c87 => ?_, fun c87 => ?_⟩
                    · skip
                      refine ⟨_, s_X2_add (in_pb_22) (a1) (a2) hI , ?_⟩
                      intro v69 lg64 it65 hq
                      obtain ⟨hI66, hK67⟩ := hq
                      have hK68 : Kc (fun j => (22 ≤ j ∧ j < 25)) lg0 it0 lg64 it65 := kc_t hKr hK67 (fun j hj => by first | omega | exact False.elim hj | (dsimp only at hj ⊢; omega))
                      subst hp
                      exact ⟨hI66, hK68⟩
                    · exact absurd c87 (by decide)
                  · try simp only [Int32.lt_iff_toInt_lt, Int32.le_iff_toInt_le, ← Int32.toInt_inj, Int32.toInt_toInt64, ti_m14, ti_m13, ti_m12, ti_m11, ti_m10, ti_m9, ti_m6, ti_m5, ti_m4, ti_m3, ti_m2, ti_m1, ti_0, ti_1, ti_2, ti_3, ti_4, ti_5, ti_6, ti_7, ti_8, ti_9, ti_10, ti_11, ti_12, ti_19, ti_20, ti_21, ti_44, ti_45, ti_48, ti_57, ti_59, ti_60, ti_98, ti_99, ti_100, ti_101, ti_103, ti_108, ti_110, ti_114, ti_127] at c71
                    refine ⟨fun c77 => ?_, fun c77 => ?_⟩
                    · try simp only [Int32.lt_iff_toInt_lt, Int32.le_iff_toInt_le, ← Int32.toInt_inj, Int32.toInt_toInt64, ti_m14, ti_m13, ti_m12, ti_m11, ti_m10, ti_m9, ti_m6, ti_m5, ti_m4, ti_m3, ti_m2, ti_m1, ti_0, ti_1, ti_2, ti_3, ti_4, ti_5, ti_6, ti_7, ti_8, ti_9, ti_10, ti_11, ti_12, ti_19, ti_20, ti_21, ti_44, ti_45, ti_48, ti_57, ti_59, ti_60, ti_98, ti_99, ti_100, ti_101, ti_103, ti_108, ti_110, ti_114, ti_127] at c77
                      unfold w_X8_event_b84
                      unfold w_X8_event_b85
                      refine ⟨fun c87 => ?_, fun c87 => ?_⟩
                      · skip
                        refine ⟨_, s_X2_add (in_pb_22) (a1) (a2) hI , ?_⟩
                        intro v76 lg71 it72 hq
                        obtain ⟨hI73, hK74⟩ := hq
                        have hK75 : Kc (fun j => (22 ≤ j ∧ j < 25)) lg0 it0 lg71 it72 := kc_t hKr hK74 (fun j hj => by first | omega | exact False.elim hj | (dsimp only at hj ⊢; omega))
                        subst hp
                        exact ⟨hI73, hK75⟩
                      · exact absurd c87 (by decide)
                    · try simp only [Int32.lt_iff_toInt_lt, Int32.le_iff_toInt_le, ← Int32.toInt_inj, Int32.toInt_toInt64, ti_m14, ti_m13, ti_m12, ti_m11, ti_m10, ti_m9, ti_m6, ti_m5, ti_m4, ti_m3, ti_m2, ti_m1, ti_0, ti_1, ti_2, ti_3, ti_4, ti_5, ti_6, ti_7, ti_8, ti_9, ti_10, ti_11, ti_12, ti_19, ti_20, ti_21, ti_44, ti_45, ti_48, ti_57, ti_59, ti_60, ti_98, ti_99, ti_100, ti_101, ti_103, ti_108, ti_110, ti_114, ti_127] at c77
                      unfold w_X8_event_b80
                      unfold w_X8_event_b85
                      refine ⟨fun c87 => ?_, fun c87 => ?_⟩
                      · exact absurd c87 (by decide)
                      · skip
                        subst hp
                        exact ⟨hI, hKr⟩
          · try simp only [Int32.lt_iff_toInt_lt, Int32.le_iff_toInt_le, ← Int32.toInt_inj, Int32.toInt_toInt64, ti_m14, ti_m13, ti_m12, ti_m11, ti_m10, ti_m9, ti_m6, ti_m5, ti_m4, ti_m3, ti_m2, ti_m1, ti_0, ti_1, ti_2, ti_3, ti_4, ti_5, ti_6, ti_7, ti_8, ti_9, ti_10, ti_11, ti_12, ti_19, ti_20, ti_21, ti_44, ti_45, ti_48, ti_57, ti_59, ti_60, ti_98, ti_99, ti_100, ti_101, ti_103, ti_108, ti_110, ti_114, ti_127] at c43
            refine ⟨fun c47 => ?_, fun c47 => ?_⟩
            · try simp only [Int32.lt_iff_toInt_lt, Int32.le_iff_toInt_le, ← Int32.toInt_inj, Int32.toInt_toInt64, ti_m14, ti_m13, ti_m12, ti_m11, ti_m10, ti_m9, ti_m6, ti_m5, ti_m4, ti_m3, ti_m2, ti_m1, ti_0, ti_1, ti_2, ti_3, ti_4, ti_5, ti_6, ti_7, ti_8, ti_9, ti_10, ti_11, ti_12, ti_19, ti_20, ti_21, ti_44, ti_45, ti_48, ti_57, ti_59, ti_60, ti_98, ti_99, ti_100, ti_101, ti_103, ti_108, ti_110, ti_114, ti_127] at c47
              unfold w_X8_event_b80
              unfold w_X8_event_b85
              refine ⟨fun c87 => ?_, fun c87 => ?_⟩
              · exact absurd c87 (by decide)
              · skip
                subst hp
                exact ⟨hI, hKr⟩
            · try simp only [Int32.lt_iff_toInt_lt, Int32.le_iff_toInt_le, ← Int32.toInt_inj, Int32.toInt_toInt64, ti_m14, ti_m13, ti_m12, ti_m11, ti_m10, ti_m9, ti_m6, ti_m5, ti_m4, ti_m3, ti_m2, ti_m1, ti_0, ti_1, ti_2, ti_3, ti_4, ti_5, ti_6, ti_7, ti_8, ti_9, ti_10, ti_11, ti_12, ti_19, ti_20, ti_21, ti_44, ti_45, ti_48, ti_57, ti_59, ti_60, ti_98, ti_99, ti_100, ti_101, ti_103, ti_108, ti_110, ti_114, ti_127] at c47
              unfold w_X8_event_b50
              refine ⟨fun c52 => ?_, fun c52 => ?_⟩
              · try simp only [Int32.lt_iff_toInt_lt, Int32.le_iff_toInt_le, ← Int32.toInt_inj, Int32.toInt_toInt64, ti_m14, ti_m13, ti_m12, ti_m11, ti_m10, ti_m9, ti_m6, ti_m5, ti_m4, ti_m3, ti_m2, ti_m1, ti_0, ti_1, ti_2, ti_3, ti_4, ti_5, ti_6, ti_7, ti_8, ti_9, ti_10, ti_11, ti_12, ti_19, ti_20, ti_21, ti_44, ti_45, ti_48, ti_57, ti_59, ti_60, ti_98, ti_99, ti_100, ti_101, ti_103, ti_108, ti_110, ti_114, ti_127] at c52
                unfold w_X8_event_b62
                refine ⟨fun c64 => ?_, fun c64 => ?_⟩
                · try simp only [Int32.lt_iff_toInt_lt, Int32.le_iff_toInt_le, ← Int32.toInt_inj, Int32.toInt_toInt64, ti_m14, ti_m13, ti_m12, ti_m11, ti_m10, ti_m9, ti_m6, ti_m5, ti_m4, ti_m3, ti_m2, ti_m1, ti_0, ti_1, ti_2, ti_3, ti_4, ti_5, ti_6, ti_7, ti_8, ti_9, ti_10, ti_11, ti_12, ti_19, ti_20, ti_21, ti_44, ti_45, ti_48, ti_57, ti_59, ti_60, ti_98, ti_99, ti_100, ti_101, ti_103, ti_108, ti_110, ti_114, ti_127] at c64
                  unfold w_X8_event_b84
                  unfold w_X8_event_b85
                  refine ⟨fun c87 => ?_, fun c87 => ?_⟩
                  · skip
                    refine ⟨_, s_X2_add (in_pb_22) (a1) (a2) hI , ?_⟩
                    intro v83 lg78 it79 hq
                    obtain ⟨hI80, hK81⟩ := hq
                    have hK82 : Kc (fun j => (22 ≤ j ∧ j < 25)) lg0 it0 lg78 it79 := kc_t hKr hK81 (fun j hj => by first | omega | exact False.elim hj | (dsimp only at hj ⊢; omega))
                    subst hp
                    exact ⟨hI80, hK82⟩
                  · exact absurd c87 (by decide)
                · try simp only [Int32.lt_iff_toInt_lt, Int32.le_iff_toInt_le, ← Int32.toInt_inj, Int32.toInt_toInt64, ti_m14, ti_m13, ti_m12, ti_m11, ti_m10, ti_m9, ti_m6, ti_m5, ti_m4, ti_m3, ti_m2, ti_m1, ti_0, ti_1, ti_2, ti_3, ti_4, ti_5, ti_6, ti_7, ti_8, ti_9, ti_10, ti_11, ti_12, ti_19, ti_20, ti_21, ti_44, ti_45, ti_48, ti_57, ti_59, ti_60, ti_98, ti_99, ti_100, ti_101, ti_103, ti_108, ti_110, ti_114, ti_127] at c64
                  refine ⟨fun c71 => ?_, fun c71 => ?_⟩
                  · try simp only [Int32.lt_iff_toInt_lt, Int32.le_iff_toInt_le, ← Int32.toInt_inj, Int32.toInt_toInt64, ti_m14, ti_m13, ti_m12, ti_m11, ti_m10, ti_m9, ti_m6, ti_m5, ti_m4, ti_m3, ti_m2, ti_m1, ti_0, ti_1, ti_2, ti_3, ti_4, ti_5, ti_6, ti_7, ti_8, ti_9, ti_10, ti_11, ti_12, ti_19, ti_20, ti_21, ti_44, ti_45, ti_48, ti_57, ti_59, ti_60, ti_98, ti_99, ti_100, ti_101, ti_103, ti_108, ti_110, ti_114, ti_127] at c71
                    unfold w_X8_event_b84
                    unfold w_X8_event_b85
                    refine ⟨fun c87 => ?_, fun c87 => ?_⟩
                    · skip
                      refine ⟨_, s_X2_add (in_pb_22) (a1) (a2) hI , ?_⟩
                      intro v90 lg85 it86 hq
                      obtain ⟨hI87, hK88⟩ := hq
                      have hK89 : Kc (fun j => (22 ≤ j ∧ j < 25)) lg0 it0 lg85 it86 := kc_t hKr hK88 (fun j hj => by first | omega | exact False.elim hj | (dsimp only at hj ⊢; omega))
                      subst hp
                      exact ⟨hI87, hK89⟩
                    · exact absurd c87 (by decide)
                  · try simp only [Int32.lt_iff_toInt_lt, Int32.le_iff_toInt_le, ← Int32.toInt_inj, Int32.toInt_toInt64, ti_m14, ti_m13, ti_m12, ti_m11, ti_m10, ti_m9, ti_m6, ti_m5, ti_m4, ti_m3, ti_m2, ti_m1, ti_0, ti_1, ti_2, ti_3, ti_4, ti_5, ti_6, ti_7, ti_8, ti_9, ti_10, ti_11, ti_12, ti_19, ti_20, ti_21, ti_44, ti_45, ti_48, ti_57, ti_59, ti_60, ti_98, ti_99, ti_100, ti_101, ti_103, ti_108, ti_110, ti_114, ti_127] at c71
                    refine ⟨fun c77 => ?_, fun c77 => ?_⟩
                    · try simp only [Int32.lt_iff_toInt_lt, Int32.le_iff_toInt_le, ← Int32.toInt_inj, Int32.toInt_toInt64, ti_m14, ti_m13, ti_m12, ti_m11, ti_m10, ti_m9, ti_m6, ti_m5, ti_m4, ti_m3, ti_m2, ti_m1, ti_0, ti_1, ti_2, ti_3, ti_4, ti_5, ti_6, ti_7, ti_8, ti_9, ti_10, ti_11, ti_12, ti_19, ti_20, ti_21, ti_44, ti_45, ti_48, ti_57, ti_59, ti_60, ti_98, ti_99, ti_100, ti_101, ti_103, ti_108, ti_110, ti_114, ti_127] at c77
                      unfold w_X8_event_b84
                      unfold w_X8_event_b85
                      refine ⟨fun c87 => ?_, fun c87 => ?_⟩
                      · skip
                        refine ⟨_, s_X2_add (in_pb_22) (a1) (a2) hI , ?_⟩
                        intro v97 lg92 it93 hq
                        obtain ⟨hI94, hK95⟩ := hq
                        have hK96 : Kc (fun j => (22 ≤ j ∧ j < 25)) lg0 it0 lg92 it93 := kc_t hKr hK95 (fun j hj => by first | omega | exact False.elim hj | (dsimp only at hj ⊢; omega))
                        subst hp
                        exact ⟨hI94, hK96⟩
                      · exact absurd c87 (by decide)
                    · try simp only [Int32.lt_iff_toInt_lt, Int32.le_iff_toInt_le, ← Int32.toInt_inj, Int32.toInt_toInt64, ti_m14, ti_m13, ti_m12, ti_m11, ti_m10, ti_m9, ti_m6, ti_m5, ti_m4, ti_m3, ti_m2, ti_m1, ti_0, ti_1, ti_2, ti_3, ti_4, ti_5, ti_6, ti_7, ti_8, ti_9, ti_10, ti_11, ti_12, ti_19, ti_20, ti_21, ti_44, ti_45, ti_48, ti_57, ti_59, ti_60, ti_98, ti_99, ti_100, ti_101, ti_103, ti_108, ti_110, ti_114, ti_127] at c77
                      unfold w_X8_event_b80
                      unfold w_X8_event_b85
                      refine ⟨fun c87 => ?_, fun c87 => ?_⟩
                      · exact absurd c87 (by decide)
                      · skip
                        subst hp
                        exact ⟨hI, hKr⟩
              · try simp only [Int32.lt_iff_toInt_lt, Int32.le_iff_toInt_le, ← Int32.toInt_inj, Int32.toInt_toInt64, ti_m14, ti_m13, ti_m12, ti_m11, ti_m10, ti_m9, ti_m6, ti_m5, ti_m4, ti_m3, ti_m2, ti_m1, ti_0, ti_1, ti_2, ti_3, ti_4, ti_5, ti_6, ti_7, ti_8, ti_9, ti_10, ti_11, ti_12, ti_19, ti_20, ti_21, ti_44, ti_45, ti_48, ti_57, ti_59, ti_60, ti_98, ti_99, ti_100, ti_101, ti_103, ti_108, ti_110, ti_114, ti_127] at c52
                refine ⟨fun c59 => ?_, fun c59 => ?_⟩
                · try simp only [Int32.lt_iff_toInt_lt, Int32.le_iff_toInt_le, ← Int32.toInt_inj, Int32.toInt_toInt64, ti_m14, ti_m13, ti_m12, ti_m11, ti_m10, ti_m9, ti_m6, ti_m5, ti_m4, ti_m3, ti_m2, ti_m1, ti_0, ti_1, ti_2, ti_3, ti_4, ti_5, ti_6, ti_7, ti_8, ti_9, ti_10, ti_11, ti_12, ti_19, ti_20, ti_21, ti_44, ti_45, ti_48, ti_57, ti_59, ti_60, ti_98, ti_99, ti_100, ti_101, ti_103, ti_108, ti_110, ti_114, ti_127] at c59
                  unfold w_X8_event_b80
                  unfold w_X8_event_b85
                  refine ⟨fun c87 => ?_, fun c87 => ?_⟩
                  · exact absurd c87 (by decide)
                  · skip
                    subst hp
                    exact ⟨hI, hKr⟩
                · try simp only [Int32.lt_iff_toInt_lt, Int32.le_iff_toInt_le, ← Int32.toInt_inj, Int32.toInt_toInt64, ti_m14, ti_m13, ti_m12, ti_m11, ti_m10, ti_m9, ti_m6, ti_m5, ti_m4, ti_m3, ti_m2, ti_m1, ti_0, ti_1, ti_2, ti_3, ti_4, ti_5, ti_6, ti_7, ti_8, ti_9, ti_10, ti_11, ti_12, ti_19, ti_20, ti_21, ti_44, ti_45, ti_48, ti_57, ti_59, ti_60, ti_98, ti_99, ti_100, ti_101, ti_103, ti_108, ti_110, ti_114, ti_127] at c59
                  unfold w_X8_event_b62
                  refine ⟨fun c64 => ?_, fun c64 => ?_⟩
                  · try simp only [Int32.lt_iff_toInt_lt, Int32.le_iff_toInt_le, ← Int32.toInt_inj, Int32.toInt_toInt64, ti_m14, ti_m13, ti_m12, ti_m11, ti_m10, ti_m9, ti_m6, ti_m5, ti_m4, ti_m3, ti_m2, ti_m1, ti_0, ti_1, ti_2, ti_3, ti_4, ti_5, ti_6, ti_7, ti_8, ti_9, ti_10, ti_11, ti_12, ti_19, ti_20, ti_21, ti_44, ti_45, ti_48, ti_57, ti_59, ti_60, ti_98, ti_99, ti_100, ti_101, ti_103, ti_108, ti_110, ti_114, ti_127] at c64
                    unfold w_X8_event_b84
                    unfold w_X8_event_b85
                    refine ⟨fun c87 => ?_, fun c87 => ?_⟩
                    · skip
                      refine ⟨_, s_X2_add (in_pb_22) (a1) (a2) hI , ?_⟩
                      intro v104 lg99 it100 hq
                      obtain ⟨hI101, hK102⟩ := hq
                      have hK103 : Kc (fun j => (22 ≤ j ∧ j < 25)) lg0 it0 lg99 it100 := kc_t hKr hK102 (fun j hj => by first | omega | exact False.elim hj | (dsimp only at hj ⊢; omega))
                      subst hp
                      exact ⟨hI101, hK103⟩
                    · exact absurd c87 (by decide)
                  · try simp only [Int32.lt_iff_toInt_lt, Int32.le_iff_toInt_le, ← Int32.toInt_inj, Int32.toInt_toInt64, ti_m14, ti_m13, ti_m12, ti_m11, ti_m10, ti_m9, ti_m6, ti_m5, ti_m4, ti_m3, ti_m2, ti_m1, ti_0, ti_1, ti_2, ti_3, ti_4, ti_5, ti_6, ti_7, ti_8, ti_9, ti_10, ti_11, ti_12, ti_19, ti_20, ti_21, ti_44, ti_45, ti_48, ti_57, ti_59, ti_60, ti_98, ti_99, ti_100, ti_101, ti_103, ti_108, ti_110, ti_114, ti_127] at c64
                    refine ⟨fun c71 => ?_, fun c71 => ?_⟩
                    · try simp only [Int32.lt_iff_toInt_lt, Int32.le_iff_toInt_le, ← Int32.toInt_inj, Int32.toInt_toInt64, ti_m14, ti_m13, ti_m12, ti_m11, ti_m10, ti_m9, ti_m6, ti_m5, ti_m4, ti_m3, ti_m2, ti_m1, ti_0, ti_1, ti_2, ti_3, ti_4, ti_5, ti_6, ti_7, ti_8, ti_9, ti_10, ti_11, ti_12, ti_19, ti_20, ti_21, ti_44, ti_45, ti_48, ti_57, ti_59, ti_60, ti_98, ti_99, ti_100, ti_101, ti_103, ti_108, ti_110, ti_114, ti_127] at c71
                      unfold w_X8_event_b84
                      unfold w_X8_event_b85
                      refine ⟨fun c87 => ?_, fun c87 => ?_⟩
                      · skip
                        refine ⟨_, s_X2_add (in_pb_22) (a1) (a2) hI , ?_⟩
                        intro v111 lg106 it107 hq
                        obtain ⟨hI108, hK109⟩ := hq
                        have hK110 : Kc (fun j => (22 ≤ j ∧ j < 25)) lg0 it0 lg106 it107 := kc_t hKr hK109 (fun j hj => by first | omega | exact False.elim hj | (dsimp only at hj ⊢; omega))
                        subst hp
                        exact ⟨hI108, hK110⟩
                      · exact absurd c87 (by decide)
                    · try simp only [Int32.lt_iff_toInt_lt, Int32.le_iff_toInt_le, ← Int32.toInt_inj, Int32.toInt_toInt64, ti_m14, ti_m13, ti_m12, ti_m11, ti_m10, ti_m9, ti_m6, ti_m5, ti_m4, ti_m3, ti_m2, ti_m1, ti_0, ti_1, ti_2, ti_3, ti_4, ti_5, ti_6, ti_7, ti_8, ti_9, ti_10, ti_11, ti_12, ti_19, ti_20, ti_21, ti_44, ti_45, ti_48, ti_57, ti_59, ti_60, ti_98, ti_99, ti_100, ti_101, ti_103, ti_108, ti_110, ti_114, ti_127] at c71
                      refine ⟨fun c77 => ?_, fun c77 => ?_⟩
                      · try simp only [Int32.lt_iff_toInt_lt, Int32.le_iff_toInt_le, ← Int32.toInt_inj, Int32.toInt_toInt64, ti_m14, ti_m13, ti_m12, ti_m11, ti_m10, ti_m9, ti_m6, ti_m5, ti_m4, ti_m3, ti_m2, ti_m1, ti_0, ti_1, ti_2, ti_3, ti_4, ti_5, ti_6, ti_7, ti_8, ti_9, ti_10, ti_11, ti_12, ti_19, ti_20, ti_21, ti_44, ti_45, ti_48, ti_57, ti_59, ti_60, ti_98, ti_99, ti_100, ti_101, ti_103, ti_108, ti_110, ti_114, ti_127] at c77
                        unfold w_X8_event_b84
                        unfold w_X8_event_b85
                        refine ⟨fun c87 => ?_, fun c87 => ?_⟩
                        · skip
                          refine ⟨_, s_X2_add (in_pb_22) (a1) (a2) hI , ?_⟩
                          intro v118 lg113 it114 hq
                          obtain ⟨hI115, hK116⟩ := hq
                          have hK117 : Kc (fun j => (22 ≤ j ∧ j < 25)) lg0 it0 lg113 it114 := kc_t hKr hK116 (fun j hj => by first | omega | exact False.elim hj | (dsimp only at hj ⊢; omega))
                          subst hp
                          exact ⟨hI115, hK117⟩
                        · exact absurd c87 (by decide)
                      · try simp only [Int32.lt_iff_toInt_lt, Int32.le_iff_toInt_le, ← Int32.toInt_inj, Int32.toInt_toInt64, ti_m14, ti_m13, ti_m12, ti_m11, ti_m10, ti_m9, ti_m6, ti_m5, ti_m4, ti_m3, ti_m2, ti_m1, ti_0, ti_1, ti_2, ti_3, ti_4, ti_5, ti_6, ti_7, ti_8, ti_9, ti_10, ti_11, ti_12, ti_19, ti_20, ti_21, ti_44, ti_45, ti_48, ti_57, ti_59, ti_60, ti_98, ti_99, ti_100, ti_101, ti_103, ti_108, ti_110, ti_114, ti_127] at c77
                        unfold w_X8_event_b80
                        unfold w_X8_event_b85
                        refine ⟨fun c87 => ?_, fun c87 => ?_⟩
                        · exact absurd c87 (by decide)
                        · skip
                          subst hp
                          exact ⟨hI, hKr⟩
        · try simp only [Int32.lt_iff_toInt_lt, Int32.le_iff_toInt_le, ← Int32.toInt_inj, Int32.toInt_toInt64, ti_m14, ti_m13, ti_m12, ti_m11, ti_m10, ti_m9, ti_m6, ti_m5, ti_m4, ti_m3, ti_m2, ti_m1, ti_0, ti_1, ti_2, ti_3, ti_4, ti_5, ti_6, ti_7, ti_8, ti_9, ti_10, ti_11, ti_12, ti_19, ti_20, ti_21, ti_44, ti_45, ti_48, ti_57, ti_59, ti_60, ti_98, ti_99, ti_100, ti_101, ti_103, ti_108, ti_110, ti_114, ti_127] at c28
          have f120 : 0 ≤ (it0 2 0).toInt ∧ (it0 2 0).toInt ≤ 6 := i8_3 hI oq_2
          refine ⟨fun c36 => ?_, fun c36 => ?_⟩
          · try simp only [Int32.lt_iff_toInt_lt, Int32.le_iff_toInt_le, ← Int32.toInt_inj, Int32.toInt_toInt64, ti_m14, ti_m13, ti_m12, ti_m11, ti_m10, ti_m9, ti_m6, ti_m5, ti_m4, ti_m3, ti_m2, ti_m1, ti_0, ti_1, ti_2, ti_3, ti_4, ti_5, ti_6, ti_7, ti_8, ti_9, ti_10, ti_11, ti_12, ti_19, ti_20, ti_21, ti_44, ti_45, ti_48, ti_57, ti_59, ti_60, ti_98, ti_99, ti_100, ti_101, ti_103, ti_108, ti_110, ti_114, ti_127] at c36
            unfold w_X8_event_b41
            refine ⟨fun c43 => ?_, fun c43 => ?_⟩
            · try simp only [Int32.lt_iff_toInt_lt, Int32.le_iff_toInt_le, ← Int32.toInt_inj, Int32.toInt_toInt64, ti_m14, ti_m13, ti_m12, ti_m11, ti_m10, ti_m9, ti_m6, ti_m5, ti_m4, ti_m3, ti_m2, ti_m1, ti_0, ti_1, ti_2, ti_3, ti_4, ti_5, ti_6, ti_7, ti_8, ti_9, ti_10, ti_11, ti_12, ti_19, ti_20, ti_21, ti_44, ti_45, ti_48, ti_57, ti_59, ti_60, ti_98, ti_99, ti_100, ti_101, ti_103, ti_108, ti_110, ti_114, ti_127] at c43
              unfold w_X8_event_b50
              refine ⟨fun c52 => ?_, fun c52 => ?_⟩
              · try simp only [Int32.lt_iff_toInt_lt, Int32.le_iff_toInt_le, ← Int32.toInt_inj, Int32.toInt_toInt64, ti_m14, ti_m13, ti_m12, ti_m11, ti_m10, ti_m9, ti_m6, ti_m5, ti_m4, ti_m3, ti_m2, ti_m1, ti_0, ti_1, ti_2, ti_3, ti_4, ti_5, ti_6, ti_7, ti_8, ti_9, ti_10, ti_11, ti_12, ti_19, ti_20, ti_21, ti_44, ti_45, ti_48, ti_57, ti_59, ti_60, ti_98, ti_99, ti_100, ti_101, ti_103, ti_108, ti_110, ti_114, ti_127] at c52
                unfold w_X8_event_b62
                refine ⟨fun c64 => ?_, fun c64 => ?_⟩
                · try simp only [Int32.lt_iff_toInt_lt, Int32.le_iff_toInt_le, ← Int32.toInt_inj, Int32.toInt_toInt64, ti_m14, ti_m13, ti_m12, ti_m11, ti_m10, ti_m9, ti_m6, ti_m5, ti_m4, ti_m3, ti_m2, ti_m1, ti_0, ti_1, ti_2, ti_3, ti_4, ti_5, ti_6, ti_7, ti_8, ti_9, ti_10, ti_11, ti_12, ti_19, ti_20, ti_21, ti_44, ti_45, ti_48, ti_57, ti_59, ti_60, ti_98, ti_99, ti_100, ti_101, ti_103, ti_108, ti_110, ti_114, ti_127] at c64
                  unfold w_X8_event_b84
                  unfold w_X8_event_b85
                  refine ⟨fun c87 => ?_, fun c87 => ?_⟩
                  · skip
                    refine ⟨_, s_X2_add (in_pb_22) (a1) (a2) hI , ?_⟩
                    intro v126 lg121 it122 hq
                    obtain ⟨hI123, hK124⟩ := hq
                    have hK125 : Kc (fun j => (22 ≤ j ∧ j < 25)) lg0 it0 lg121 it122 := kc_t hKr hK124 (fun j hj => by first | omega | exact False.elim hj | (dsimp only at hj ⊢; omega))
                    subst hp
                    exact ⟨hI123, hK125⟩
                  · exact absurd c87 (by decide)
                · try simp only [Int32.lt_iff_toInt_lt, Int32.le_iff_toInt_le, ← Int32.toInt_inj, Int32.toInt_toInt64, ti_m14, ti_m13, ti_m12, ti_m11, ti_m10, ti_m9, ti_m6, ti_m5, ti_m4, ti_m3, ti_m2, ti_m1, ti_0, ti_1, ti_2, ti_3, ti_4, ti_5, ti_6, ti_7, ti_8, ti_9, ti_10, ti_11, ti_12, ti_19, ti_20, ti_21, ti_44, ti_45, ti_48, ti_57, ti_59, ti_60, ti_98, ti_99, ti_100, ti_101, ti_103, ti_108, ti_110, ti_114, ti_127] at c64
                  refine ⟨fun c71 => ?_, fun c71 => ?_⟩
                  · try simp only [Int32.lt_iff_toInt_lt, Int32.le_iff_toInt_le, ← Int32.toInt_inj, Int32.toInt_toInt64, ti_m14, ti_m13, ti_m12, ti_m11, ti_m10, ti_m9, ti_m6, ti_m5, ti_m4, ti_m3, ti_m2, ti_m1, ti_0, ti_1, ti_2, ti_3, ti_4, ti_5, ti_6, ti_7, ti_8, ti_9, ti_10, ti_11, ti_12, ti_19, ti_20, ti_21, ti_44, ti_45, ti_48, ti_57, ti_59, ti_60, ti_98, ti_99, ti_100, ti_101, ti_103, ti_108, ti_110, ti_114, ti_127] at c71
                    unfold w_X8_event_b84
                    unfold w_X8_event_b85
                    refine ⟨fun c87 => ?_, fun c87 => ?_⟩
                    · skip
                      refine ⟨_, s_X2_add (in_pb_22) (a1) (a2) hI , ?_⟩
                      intro v133 lg128 it129 hq
                      obtain ⟨hI130, hK131⟩ := hq
                      have hK132 : Kc (fun j => (22 ≤ j ∧ j < 25)) lg0 it0 lg128 it129 := kc_t hKr hK131 (fun j hj => by first | omega | exact False.elim hj | (dsimp only at hj ⊢; omega))
                      subst hp
                      exact ⟨hI130, hK132⟩
                    · exact absurd c87 (by decide)
                  · try simp only [Int32.lt_iff_toInt_lt, Int32.le_iff_toInt_le, ← Int32.toInt_inj, Int32.toInt_toInt64, ti_m14, ti_m13, ti_m12, ti_m11, ti_m10, ti_m9, ti_m6, ti_m5, ti_m4, ti_m3, ti_m2, ti_m1, ti_0, ti_1, ti_2, ti_3, ti_4, ti_5, ti_6, ti_7, ti_8, ti_9, ti_10, ti_11, ti_12, ti_19, ti_20, ti_21, ti_44, ti_45, ti_48, ti_57, ti_59, ti_60, ti_98, ti_99, ti_100, ti_101, ti_103, ti_108, ti_110, ti_114, ti_127] at c71
                    refine ⟨fun c77 => ?_, fun c77 => ?_⟩
                    · try simp only [Int32.lt_iff_toInt_lt, Int32.le_iff_toInt_le, ← Int32.toInt_inj, Int32.toInt_toInt64, ti_m14, ti_m13, ti_m12, ti_m11, ti_m10, ti_m9, ti_m6, ti_m5, ti_m4, ti_m3, ti_m2, ti_m1, ti_0, ti_1, ti_2, ti_3, ti_4, ti_5, ti_6, ti_7, ti_8, ti_9, ti_10, ti_11, ti_12, ti_19, ti_20, ti_21, ti_44, ti_45, ti_48, ti_57, ti_59, ti_60, ti_98, ti_99, ti_100, ti_101, ti_103, ti_108, ti_110, ti_114, ti_127] at c77
                      unfold w_X8_event_b84
                      unfold w_X8_event_b85
                      refine ⟨fun c87 => ?_, fun c87 => ?_⟩
                      · skip
                        refine ⟨_, s_X2_add (in_pb_22) (a1) (a2) hI , ?_⟩
                        intro v140 lg135 it136 hq
                        obtain ⟨hI137, hK138⟩ := hq
                        have hK139 : Kc (fun j => (22 ≤ j ∧ j < 25)) lg0 it0 lg135 it136 := kc_t hKr hK138 (fun j hj => by first | omega | exact False.elim hj | (dsimp only at hj ⊢; omega))
                        subst hp
                        exact ⟨hI137, hK139⟩
                      · exact absurd c87 (by decide)
                    · try simp only [Int32.lt_iff_toInt_lt, Int32.le_iff_toInt_le, ← Int32.toInt_inj, Int32.toInt_toInt64, ti_m14, ti_m13, ti_m12, ti_m11, ti_m10, ti_m9, ti_m6, ti_m5, ti_m4, ti_m3, ti_m2, ti_m1, ti_0, ti_1, ti_2, ti_3, ti_4, ti_5, ti_6, ti_7, ti_8, ti_9, ti_10, ti_11, ti_12, ti_19, ti_20, ti_21, ti_44, ti_45, ti_48, ti_57, ti_59, ti_60, ti_98, ti_99, ti_100, ti_101, ti_103, ti_108, ti_110, ti_114, ti_127] at c77
                      unfold w_X8_event_b80
                      unfold w_X8_event_b85
                      refine ⟨fun c87 => ?_, fun c87 => ?_⟩
                      · exact absurd c87 (by decide)
                      · skip
                        subst hp
                        exact ⟨hI, hKr⟩
              · try simp only [Int32.lt_iff_toInt_lt, Int32.le_iff_toInt_le, ← Int32.toInt_inj, Int32.toInt_toInt64, ti_m14, ti_m13, ti_m12, ti_m11, ti_m10, ti_m9, ti_m6, ti_m5, ti_m4, ti_m3, ti_m2, ti_m1, ti_0, ti_1, ti_2, ti_3, ti_4, ti_5, ti_6, ti_7, ti_8, ti_9, ti_10, ti_11, ti_12, ti_19, ti_20, ti_21, ti_44, ti_45, ti_48, ti_57, ti_59, ti_60, ti_98, ti_99, ti_100, ti_101, ti_103, ti_108, ti_110, ti_114, ti_127] at c52
                refine ⟨fun c59 => ?_, fun c59 => ?_⟩
                · try simp only [Int32.lt_iff_toInt_lt, Int32.le_iff_toInt_le, ← Int32.toInt_inj, Int32.toInt_toInt64, ti_m14, ti_m13, ti_m12, ti_m11, ti_m10, ti_m9, ti_m6, ti_m5, ti_m4, ti_m3, ti_m2, ti_m1, ti_0, ti_1, ti_2, ti_3, ti_4, ti_5, ti_6, ti_7, ti_8, ti_9, ti_10, ti_11, ti_12, ti_19, ti_20, ti_21, ti_44, ti_45, ti_48, ti_57, ti_59, ti_60, ti_98, ti_99, ti_100, ti_101, ti_103, ti_108, ti_110, ti_114, ti_127] at c59
                  unfold w_X8_event_b80
                  unfold w_X8_event_b85
                  refine ⟨fun c87 => ?_, fun c87 => ?_⟩
                  · exact absurd c87 (by decide)
                  · skip
                    subst hp
                    exact ⟨hI, hKr⟩
                · try simp only [Int32.lt_iff_toInt_lt, Int32.le_iff_toInt_le, ← Int32.toInt_inj, Int32.toInt_toInt64, ti_m14, ti_m13, ti_m12, ti_m11, ti_m10, ti_m9, ti_m6, ti_m5, ti_m4, ti_m3, ti_m2, ti_m1, ti_0, ti_1, ti_2, ti_3, ti_4, ti_5, ti_6, ti_7, ti_8, ti_9, ti_10, ti_11, ti_12, ti_19, ti_20, ti_21, ti_44, ti_45, ti_48, ti_57, ti_59, ti_60, ti_98, ti_99, ti_100, ti_101, ti_103, ti_108, ti_110, ti_114, ti_127] at c59
                  unfold w_X8_event_b62
                  refine ⟨fun c64 => ?_, fun c64 => ?_⟩
                  · try simp only [Int32.lt_iff_toInt_lt, Int32.le_iff_toInt_le, ← Int32.toInt_inj, Int32.toInt_toInt64, ti_m14, ti_m13, ti_m12, ti_m11, ti_m10, ti_m9, ti_m6, ti_m5, ti_m4, ti_m3, ti_m2, ti_m1, ti_0, ti_1, ti_2, ti_3, ti_4, ti_5, ti_6, ti_7, ti_8, ti_9, ti_10, ti_11, ti_12, ti_19, ti_20, ti_21, ti_44, ti_45, ti_48, ti_57, ti_59, ti_60, ti_98, ti_99, ti_100, ti_101, ti_103, ti_108, ti_110, ti_114, ti_127] at c64
                    unfold w_X8_event_b84
                    unfold w_X8_event_b85
                    refine ⟨fun c87 => ?_, fun c87 => ?_⟩
                    · skip
                      refine ⟨_, s_X2_add (in_pb_22) (a1) (a2) hI , ?_⟩
                      intro v147 lg142 it143 hq
                      obtain ⟨hI144, hK145⟩ := hq
                      have hK146 : Kc (fun j => (22 ≤ j ∧ j < 25)) lg0 it0 lg142 it143 := kc_t hKr hK145 (fun j hj => by first | omega | exact False.elim hj | (dsimp only at hj ⊢; omega))
                      subst hp
                      exact ⟨hI144, hK146⟩
                    · exact absurd c87 (by decide)
                  · try simp only [Int32.lt_iff_toInt_lt, Int32.le_iff_toInt_le, ← Int32.toInt_inj, Int32.toInt_toInt64, ti_m14, ti_m13, ti_m12, ti_m11, ti_m10, ti_m9, ti_m6, ti_m5, ti_m4, ti_m3, ti_m2, ti_m1, ti_0, ti_1, ti_2, ti_3, ti_4, ti_5, ti_6, ti_7, ti_8, ti_9, ti_10, ti_11, ti_12, ti_19, ti_20, ti_21, ti_44, ti_45, ti_48, ti_57, ti_59, ti_60, ti_98, ti_99, ti_100, ti_101, ti_103, ti_108, ti_110, ti_114, ti_127] at c64
                    refine ⟨fun c71 => ?_, fun c71 => ?_⟩
                    · try simp only [Int32.lt_iff_toInt_lt, Int32.le_iff_toInt_le, ← Int32.toInt_inj, Int32.toInt_toInt64, ti_m14, ti_m13, ti_m12, ti_m11, ti_m10, ti_m9, ti_m6, ti_m5, ti_m4, ti_m3, ti_m2, ti_m1, ti_0, ti_1, ti_2, ti_3, ti_4, ti_5, ti_6, ti_7, ti_8, ti_9, ti_10, ti_11, ti_12, ti_19, ti_20, ti_21, ti_44, ti_45, ti_48, ti_57, ti_59, ti_60, ti_98, ti_99, ti_100, ti_101, ti_103, ti_108, ti_110, ti_114, ti_127] at c71
                      unfold w_X8_event_b84
                      unfold w_X8_event_b85
                      refine ⟨fun c87 => ?_, fun c87 => ?_⟩
                      · skip
                        refine ⟨_, s_X2_add (in_pb_22) (a1) (a2) hI , ?_⟩
                        intro v154 lg149 it150 hq
                        obtain ⟨hI151, hK152⟩ := hq
                        have hK153 : Kc (fun j => (22 ≤ j ∧ j < 25)) lg0 it0 lg149 it150 := kc_t hKr hK152 (fun j hj => by first | omega | exact False.elim hj | (dsimp only at hj ⊢; omega))
                        subst hp
                        exact ⟨hI151, hK153⟩
                      · exact absurd c87 (by decide)
                    · try simp only [Int32.lt_iff_toInt_lt, Int32.le_iff_toInt_le, ← Int32.toInt_inj, Int32.toInt_toInt64, ti_m14, ti_m13, ti_m12, ti_m11, ti_m10, ti_m9, ti_m6, ti_m5, ti_m4, ti_m3, ti_m2, ti_m1, ti_0, ti_1, ti_2, ti_3, ti_4, ti_5, ti_6, ti_7, ti_8, ti_9, ti_10, ti_11, ti_12, ti_19, ti_20, ti_21, ti_44, ti_45, ti_48, ti_57, ti_59, ti_60, ti_98, ti_99, ti_100, ti_101, ti_103, ti_108, ti_110, ti_114, ti_127] at c71
                      refine ⟨fun c77 => ?_, fun c77 => ?_⟩
                      · try simp only [Int32.lt_iff_toInt_lt, Int32.le_iff_toInt_le, ← Int32.toInt_inj, Int32.toInt_toInt64, ti_m14, ti_m13, ti_m12, ti_m11, ti_m10, ti_m9, ti_m6, ti_m5, ti_m4, ti_m3, ti_m2, ti_m1, ti_0, ti_1, ti_2, ti_3, ti_4, ti_5, ti_6, ti_7, ti_8, ti_9, ti_10, ti_11, ti_12, ti_19, ti_20, ti_21, ti_44, ti_45, ti_48, ti_57, ti_59, ti_60, ti_98, ti_99, ti_100, ti_101, ti_103, ti_108, ti_110, ti_114, ti_127] at c77
                        unfold w_X8_event_b84
                        unfold w_X8_event_b85
                        refine ⟨fun c87 => ?_, fun c87 => ?_⟩
                        · skip
                          refine ⟨_, s_X2_add (in_pb_22) (a1) (a2) hI , ?_⟩
                          intro v161 lg156 it157 hq
                          obtain ⟨hI158, hK159⟩ := hq
                          have hK160 : Kc (fun j => (22 ≤ j ∧ j < 25)) lg0 it0 lg156 it157 := kc_t hKr hK159 (fun j hj => by first | omega | exact False.elim hj | (dsimp only at hj ⊢; omega))
                          subst hp
                          exact ⟨hI158, hK160⟩
                        · exact absurd c87 (by decide)
                      · try simp only [Int32.lt_iff_toInt_lt, Int32.le_iff_toInt_le, ← Int32.toInt_inj, Int32.toInt_toInt64, ti_m14, ti_m13, ti_m12, ti_m11, ti_m10, ti_m9, ti_m6, ti_m5, ti_m4, ti_m3, ti_m2, ti_m1, ti_0, ti_1, ti_2, ti_3, ti_4, ti_5, ti_6, ti_7, ti_8, ti_9, ti_10, ti_11, ti_12, ti_19, ti_20, ti_21, ti_44, ti_45, ti_48, ti_57, ti_59, ti_60, ti_98, ti_99, ti_100, ti_101, ti_103, ti_108, ti_110, ti_114, ti_127] at c77
                        unfold w_X8_event_b80
                        unfold w_X8_event_b85
                        refine ⟨fun c87 => ?_, fun c87 => ?_⟩
                        · exact absurd c87 (by decide)
                        · skip
                          subst hp
                          exact ⟨hI, hKr⟩
            · try simp only [Int32.lt_iff_toInt_lt, Int32.le_iff_toInt_le, ← Int32.toInt_inj, Int32.toInt_toInt64, ti_m14, ti_m13, ti_m12, ti_m11, ti_m10, ti_m9, ti_m6, ti_m5, ti_m4, ti_m3, ti_m2, ti_m1, ti_0, ti_1, ti_2, ti_3, ti_4, ti_5, ti_6, ti_7, ti_8, ti_9, ti_10, ti_11, ti_12, ti_19, ti_20, ti_21, ti_44, ti_45, ti_48, ti_57, ti_59, ti_60, ti_98, ti_99, ti_100, ti_101, ti_103, ti_108, ti_110, ti_114, ti_127] at c43
              refine ⟨fun c47 => ?_, fun c47 => ?_⟩
              · try simp only [Int32.lt_iff_toInt_lt, Int32.le_iff_toInt_le, ← Int32.toInt_inj, Int32.toInt_toInt64, ti_m14, ti_m13, ti_m12, ti_m11, ti_m10, ti_m9, ti_m6, ti_m5, ti_m4, ti_m3, ti_m2, ti_m1, ti_0, ti_1, ti_2, ti_3, ti_4, ti_5, ti_6, ti_7, ti_8, ti_9, ti_10, ti_11, ti_12, ti_19, ti_20, ti_21, ti_44, ti_45, ti_48, ti_57, ti_59, ti_60, ti_98, ti_99, ti_100, ti_101, ti_103, ti_108, ti_110, ti_114, ti_127] at c47
                unfold w_X8_event_b80
                unfold w_X8_event_b85
                refine ⟨fun c87 => ?_, fun c87 => ?_⟩
                · exact absurd c87 (by decide)
                · skip
                  subst hp
                  exact ⟨hI, hKr⟩
              · try simp only [Int32.lt_iff_toInt_lt, Int32.le_iff_toInt_le, ← Int32.toInt_inj, Int32.toInt_toInt64, ti_m14, ti_m13, ti_m12, ti_m11, ti_m10, ti_m9, ti_m6, ti_m5, ti_m4, ti_m3, ti_m2, ti_m1, ti_0, ti_1, ti_2, ti_3, ti_4, ti_5, ti_6, ti_7, ti_8, ti_9, ti_10, ti_11, ti_12, ti_19, ti_20, ti_21, ti_44, ti_45, ti_48, ti_57, ti_59, ti_60, ti_98, ti_99, ti_100, ti_101, ti_103, ti_108, ti_110, ti_114, ti_127] at c47
                unfold w_X8_event_b50
                refine ⟨fun c52 => ?_, fun c52 => ?_⟩
                · try simp only [Int32.lt_iff_toInt_lt, Int32.le_iff_toInt_le, ← Int32.toInt_inj, Int32.toInt_toInt64, ti_m14, ti_m13, ti_m12, ti_m11, ti_m10, ti_m9, ti_m6, ti_m5, ti_m4, ti_m3, ti_m2, ti_m1, ti_0, ti_1, ti_2, ti_3, ti_4, ti_5, ti_6, ti_7, ti_8, ti_9, ti_10, ti_11, ti_12, ti_19, ti_20, ti_21, ti_44, ti_45, ti_48, ti_57, ti_59, ti_60, ti_98, ti_99, ti_100, ti_101, ti_103, ti_108, ti_110, ti_114, ti_127] at c52
                  unfold w_X8_event_b62
                  refine ⟨fun c64 => ?_, fun c64 => ?_⟩
                  · try simp only [Int32.lt_iff_toInt_lt, Int32.le_iff_toInt_le, ← Int32.toInt_inj, Int32.toInt_toInt64, ti_m14, ti_m13, ti_m12, ti_m11, ti_m10, ti_m9, ti_m6, ti_m5, ti_m4, ti_m3, ti_m2, ti_m1, ti_0, ti_1, ti_2, ti_3, ti_4, ti_5, ti_6, ti_7, ti_8, ti_9, ti_10, ti_11, ti_12, ti_19, ti_20, ti_21, ti_44, ti_45, ti_48, ti_57, ti_59, ti_60, ti_98, ti_99, ti_100, ti_101, ti_103, ti_108, ti_110, ti_114, ti_127] at c64
                    unfold w_X8_event_b84
                    unfold w_X8_event_b85
                    refine ⟨fun c87 => ?_, fun c87 => ?_⟩
                    · skip
                      refine ⟨_, s_X2_add (in_pb_22) (a1) (a2) hI , ?_⟩
                      intro v168 lg163 it164 hq
                      obtain ⟨hI165, hK166⟩ := hq
                      have hK167 : Kc (fun j => (22 ≤ j ∧ j < 25)) lg0 it0 lg163 it164 := kc_t hKr hK166 (fun j hj => by first | omega | exact False.elim hj | (dsimp only at hj ⊢; omega))
                      subst hp
                      exact ⟨hI165, hK167⟩
                    · exact absurd c87 (by decide)
                  · try simp only [Int32.lt_iff_toInt_lt, Int32.le_iff_toInt_le, ← Int32.toInt_inj, Int32.toInt_toInt64, ti_m14, ti_m13, ti_m12, ti_m11, ti_m10, ti_m9, ti_m6, ti_m5, ti_m4, ti_m3, ti_m2, ti_m1, ti_0, ti_1, ti_2, ti_3, ti_4, ti_5, ti_6, ti_7, ti_8, ti_9, ti_10, ti_11, ti_12, ti_19, ti_20, ti_21, ti_44, ti_45, ti_48, ti_57, ti_59, ti_60, ti_98, ti_99, ti_100, ti_101, ti_103, ti_108, ti_110, ti_114, ti_127] at c64
                    refine ⟨fun c71 => ?_, fun c71 => ?_⟩
                    · try simp only [Int32.lt_iff_toInt_lt, Int32.le_iff_toInt_le, ← Int32.toInt_inj, Int32.toInt_toInt64, ti_m14, ti_m13, ti_m12, ti_m11, ti_m10, ti_m9, ti_m6, ti_m5, ti_m4, ti_m3, ti_m2, ti_m1, ti_0, ti_1, ti_2, ti_3, ti_4, ti_5, ti_6, ti_7, ti_8, ti_9, ti_10, ti_11, ti_12, ti_19, ti_20, ti_21, ti_44, ti_45, ti_48, ti_57, ti_59, ti_60, ti_98, ti_99, ti_100, ti_101, ti_103, ti_108, ti_110, ti_114, ti_127] at c71
                      unfold w_X8_event_b84
                      unfold w_X8_event_b85
                      refine ⟨fun c87 => ?_, fun c87 => ?_⟩
                      · skip
                        refine ⟨_, s_X2_add (in_pb_22) (a1) (a2) hI , ?_⟩
                        intro v175 lg170 it171 hq
                        obtain ⟨hI172, hK173⟩ := hq
                        have hK174 : Kc (fun j => (22 ≤ j ∧ j < 25)) lg0 it0 lg170 it171 := kc_t hKr hK173 (fun j hj => by first | omega | exact False.elim hj | (dsimp only at hj ⊢; omega))
                        subst hp
                        exact ⟨hI172, hK174⟩
                      · exact absurd c87 (by decide)
                    · try simp only [Int32.lt_iff_toInt_lt, Int32.le_iff_toInt_le, ← Int32.toInt_inj, Int32.toInt_toInt64, ti_m14, ti_m13, ti_m12, ti_m11, ti_m10, ti_m9, ti_m6, ti_m5, ti_m4, ti_m3, ti_m2, ti_m1, ti_0, ti_1, ti_2, ti_3, ti_4, ti_5, ti_6, ti_7, ti_8, ti_9, ti_10, ti_11, ti_12, ti_19, ti_20, ti_21, ti_44, ti_45, ti_48, ti_57, ti_59, ti_60, ti_98, ti_99, ti_100, ti_101, ti_103, ti_108, ti_110, ti_114, ti_127] at c71
                      refine ⟨fun c77 => ?_, fun c77 => ?_⟩
                      · try simp only [Int32.lt_iff_toInt_lt, Int32.le_iff_toInt_le, ← Int32.toInt_inj, Int32.toInt_toInt64, ti_m14, ti_m13, ti_m12, ti_m11, ti_m10, ti_m9, ti_m6, ti_m5, ti_m4, ti_m3, ti_m2, ti_m1, ti_0, ti_1, ti_2, ti_3, ti_4, ti_5, ti_6, ti_7, ti_8, ti_9, ti_10, ti_11, ti_12, ti_19, ti_20, ti_21, ti_44, ti_45, ti_48, ti_57, ti_59, ti_60, ti_98, ti_99, ti_100, ti_101, ti_103, ti_108, ti_110, ti_114, ti_127] at c77
                        unfold w_X8_event_b84
                        unfold w_X8_event_b85
                        refine ⟨fun c87 => ?_, fun c87 => ?_⟩
                        · skip
                          refine ⟨_, s_X2_add (in_pb_22) (a1) (a2) hI , ?_⟩
                          intro v182 lg177 it178 hq
                          obtain ⟨hI179, hK180⟩ := hq
                          have hK181 : Kc (fun j => (22 ≤ j ∧ j < 25)) lg0 it0 lg177 it178 := kc_t hKr hK180 (fun j hj => by first | omega | exact False.elim hj | (dsimp only at hj ⊢; omega))
                          subst hp
                          exact ⟨hI179, hK181⟩
                        · exact absurd c87 (by decide)
                      · try simp only [Int32.lt_iff_toInt_lt, Int32.le_iff_toInt_le, ← Int32.toInt_inj, Int32.toInt_toInt64, ti_m14, ti_m13, ti_m12, ti_m11, ti_m10, ti_m9, ti_m6, ti_m5, ti_m4, ti_m3, ti_m2, ti_m1, ti_0, ti_1, ti_2, ti_3, ti_4, ti_5, ti_6, ti_7, ti_8, ti_9, ti_10, ti_11, ti_12, ti_19, ti_20, ti_21, ti_44, ti_45, ti_48, ti_57, ti_59, ti_60, ti_98, ti_99, ti_100, ti_101, ti_103, ti_108, ti_110, ti_114, ti_127] at c77
                        unfold w_X8_event_b80
                        unfold w_X8_event_b85
                        refine ⟨fun c87 => ?_, fun c87 => ?_⟩
                        · exact absurd c87 (by decide)
                        · skip
                          subst hp
                          exact ⟨hI, hKr⟩
                · try simp only [Int32.lt_iff_toInt_lt, Int32.le_iff_toInt_le, ← Int32.toInt_inj, Int32.toInt_toInt64, ti_m14, ti_m13, ti_m12, ti_m11, ti_m10, ti_m9, ti_m6, ti_m5, ti_m4, ti_m3, ti_m2, ti_m1, ti_0, ti_1, ti_2, ti_3, ti_4, ti_5, ti_6, ti_7, ti_8, ti_9, ti_10, ti_11, ti_12, ti_19, ti_20, ti_21, ti_44, ti_45, ti_48, ti_57, ti_59, ti_60, ti_98, ti_99, ti_100, ti_101, ti_103, ti_108, ti_110, ti_114, ti_127] at c52
                  refine ⟨fun c59 => ?_, fun c59 => ?_⟩
                  · try simp only [Int32.lt_iff_toInt_lt, Int32.le_iff_toInt_le, ← Int32.toInt_inj, Int32.toInt_toInt64, ti_m14, ti_m13, ti_m12, ti_m11, ti_m10, ti_m9, ti_m6, ti_m5, ti_m4, ti_m3, ti_m2, ti_m1, ti_0, ti_1, ti_2, ti_3, ti_4, ti_5, ti_6, ti_7, ti_8, ti_9, ti_10, ti_11, ti_12, ti_19, ti_20, ti_21, ti_44, ti_45, ti_48, ti_57, ti_59, ti_60, ti_98, ti_99, ti_100, ti_101, ti_103, ti_108, ti_110, ti_114, ti_127] at c59
                    unfold w_X8_event_b80
                    unfold w_X8_event_b85
                    refine ⟨fun c87 => ?_, fun c87 => ?_⟩
                    · exact absurd c87 (by decide)
                    · skip
                      subst hp
                      exact ⟨hI, hKr⟩
                  · try simp only [Int32.lt_iff_toInt_lt, Int32.le_iff_toInt_le, ← Int32.toInt_inj, Int32.toInt_toInt64, ti_m14, ti_m13, ti_m12, ti_m11, ti_m10, ti_m9, ti_m6, ti_m5, ti_m4, ti_m3, ti_m2, ti_m1, ti_0, ti_1, ti_2, ti_3, ti_4, ti_5, ti_6, ti_7, ti_8, ti_9, ti_10, ti_11, ti_12, ti_19, ti_20, ti_21, ti_44, ti_45, ti_48, ti_57, ti_59, ti_60, ti_98, ti_99, ti_100, ti_101, ti_103, ti_108, ti_110, ti_114, ti_127] at c59
                    unfold w_X8_event_b62
                    refine ⟨fun c64 => ?_, fun c64 => ?_⟩
                    · try simp only [Int32.lt_iff_toInt_lt, Int32.le_iff_toInt_le, ← Int32.toInt_inj, Int32.toInt_toInt64, ti_m14, ti_m13, ti_m12, ti_m11, ti_m10, ti_m9, ti_m6, ti_m5, ti_m4, ti_m3, ti_m2, ti_m1, ti_0, ti_1, ti_2, ti_3, ti_4, ti_5, ti_6, ti_7, ti_8, ti_9, ti_10, ti_11, ti_12, ti_19, ti_20, ti_21, ti_44, ti_45, ti_48, ti_57, ti_59, ti_60, ti_98, ti_99, ti_100, ti_101, ti_103, ti_108, ti_110, ti_114, ti_127] at c64
                      unfold w_X8_event_b84
                      unfold w_X8_event_b85
                      refine ⟨fun c87 => ?_, fun c87 => ?_⟩
                      · skip
                        refine ⟨_, s_X2_add (in_pb_22) (a1) (a2) hI , ?_⟩
                        intro v189 lg184 it185 hq
                        obtain ⟨hI186, hK187⟩ := hq
                        have hK188 : Kc (fun j => (22 ≤ j ∧ j < 25)) lg0 it0 lg184 it185 := kc_t hKr hK187 (fun j hj => by first | omega | exact False.elim hj | (dsimp only at hj ⊢; omega))
                        subst hp
                        exact ⟨hI186, hK188⟩
                      · exact absurd c87 (by decide)
                    · try simp only [Int32.lt_iff_toInt_lt, Int32.le_iff_toInt_le, ← Int32.toInt_inj, Int32.toInt_toInt64, ti_m14, ti_m13, ti_m12, ti_m11, ti_m10, ti_m9, ti_m6, ti_m5, ti_m4, ti_m3, ti_m2, ti_m1, ti_0, ti_1, ti_2, ti_3, ti_4, ti_5, ti_6, ti_7, ti_8, ti_9, ti_10, ti_11, ti_12, ti_19, ti_20, ti_21, ti_44, ti_45, ti_48, ti_57, ti_59, ti_60, ti_98, ti_99, ti_100, ti_101, ti_103, ti_108, ti_110, ti_114, ti_127] at c64
                      refine ⟨fun c71 => ?_, fun c71 => ?_⟩
                      · try simp only [Int32.lt_iff_toInt_lt, Int32.le_iff_toInt_le, ← Int32.toInt_inj, Int32.toInt_toInt64, ti_m14, ti_m13, ti_m12, ti_m11, ti_m10, ti_m9, ti_m6, ti_m5, ti_m4, ti_m3, ti_m2, ti_m1, ti_0, ti_1, ti_2, ti_3, ti_4, ti_5, ti_6, ti_7, ti_8, ti_9, ti_10, ti_11, ti_12, ti_19, ti_20, ti_21, ti_44, ti_45, ti_48, ti_57, ti_59, ti_60, ti_98, ti_99, ti_100, ti_101, ti_103, ti_108, ti_110, ti_114, ti_127] at c71
                        unfold w_X8_event_b84
                        unfold w_X8_event_b85
                        refine ⟨fun c87 => ?_, fun c87 => ?_⟩
                        · skip
                          refine ⟨_, s_X2_add (in_pb_22) (a1) (a2) hI , ?_⟩
                          intro v196 lg191 it192 hq
                          obtain ⟨hI193, hK194⟩ := hq
                          have hK195 : Kc (fun j => (22 ≤ j ∧ j < 25)) lg0 it0 lg191 it192 := kc_t hKr hK194 (fun j hj => by first | omega | exact False.elim hj | (dsimp only at hj ⊢; omega))
                          subst hp
                          exact ⟨hI193, hK195⟩
                        · exact absurd c87 (by decide)
                      · try simp only [Int32.lt_iff_toInt_lt, Int32.le_iff_toInt_le, ← Int32.toInt_inj, Int32.toInt_toInt64, ti_m14, ti_m13, ti_m12, ti_m11, ti_m10, ti_m9, ti_m6, ti_m5, ti_m4, ti_m3, ti_m2, ti_m1, ti_0, ti_1, ti_2, ti_3, ti_4, ti_5, ti_6, ti_7, ti_8, ti_9, ti_10, ti_11, ti_12, ti_19, ti_20, ti_21, ti_44, ti_45, ti_48, ti_57, ti_59, ti_60, ti_98, ti_99, ti_100, ti_101, ti_103, ti_108, ti_110, ti_114, ti_127] at c71
                        refine ⟨fun c77 => ?_, fun c77 => ?_⟩
                        · try simp only [Int32.lt_iff_toInt_lt, Int32.le_iff_toInt_le, ← Int32.toInt_inj, Int32.toInt_toInt64, ti_m14, ti_m13, ti_m12, ti_m11, ti_m10, ti_m9, ti_m6, ti_m5, ti_m4, ti_m3, ti_m2, ti_m1, ti_0, ti_1, ti_2, ti_3, ti_4, ti_5, ti_6, ti_7, ti_8, ti_9, ti_10, ti_11, ti_12, ti_19, ti_20, ti_21, ti_44, ti_45, ti_48, ti_57, ti_59, ti_60, ti_98, ti_99, ti_100, ti_101, ti_103, ti_108, ti_110, ti_114, ti_127] at c77
                          unfold w_X8_event_b84
                          unfold w_X8_event_b85
                          refine ⟨fun c87 => ?_, fun c87 => ?_⟩
                          · skip
                            refine ⟨_, s_X2_add (in_pb_22) (a1) (a2) hI , ?_⟩
                            intro v203 lg198 it199 hq
                            obtain ⟨hI200, hK201⟩ := hq
                            have hK202 : Kc (fun j => (22 ≤ j ∧ j < 25)) lg0 it0 lg198 it199 := kc_t hKr hK201 (fun j hj => by first | omega | exact False.elim hj | (dsimp only at hj ⊢; omega))
                            subst hp
                            exact ⟨hI200, hK202⟩
                          · exact absurd c87 (by decide)
                        · try simp only [Int32.lt_iff_toInt_lt, Int32.le_iff_toInt_le, ← Int32.toInt_inj, Int32.toInt_toInt64, ti_m14, ti_m13, ti_m12, ti_m11, ti_m10, ti_m9, ti_m6, ti_m5, ti_m4, ti_m3, ti_m2, ti_m1, ti_0, ti_1, ti_2, ti_3, ti_4, ti_5, ti_6, ti_7, ti_8, ti_9, ti_10, ti_11, ti_12, ti_19, ti_20, ti_21, ti_44, ti_45, ti_48, ti_57, ti_59, ti_60, ti_98, ti_99, ti_100, ti_101, ti_103, ti_108, ti_110, ti_114, ti_127] at c77
                          unfold w_X8_event_b80
                          unfold w_X8_event_b85
                          refine ⟨fun c87 => ?_, fun c87 => ?_⟩
                          · exact absurd c87 (by decide)
                          · skip
                            subst hp
                            exact ⟨hI, hKr⟩
          · try simp only [Int32.lt_iff_toInt_lt, Int32.le_iff_toInt_le, ← Int32.toInt_inj, Int32.toInt_toInt64, ti_m14, ti_m13, ti_m12, ti_m11, ti_m10, ti_m9, ti_m6, ti_m5, ti_m4, ti_m3, ti_m2, ti_m1, ti_0, ti_1, ti_2, ti_3, ti_4, ti_5, ti_6, ti_7, ti_8, ti_9, ti_10, ti_11, ti_12, ti_19, ti_20, ti_21, ti_44, ti_45, ti_48, ti_57, ti_59, ti_60, ti_98, ti_99, ti_100, ti_101, ti_103, ti_108, ti_110, ti_114, ti_127] at c36
            subst hp
            exact ⟨hI, hKr⟩
  · try simp only [Int32.lt_iff_toInt_lt, Int32.le_iff_toInt_le, ← Int32.toInt_inj, Int32.toInt_toInt64, ti_m14, ti_m13, ti_m12, ti_m11, ti_m10, ti_m9, ti_m6, ti_m5, ti_m4, ti_m3, ti_m2, ti_m1, ti_0, ti_1, ti_2, ti_3, ti_4, ti_5, ti_6, ti_7, ti_8, ti_9, ti_10, ti_11, ti_12, ti_19, ti_20, ti_21, ti_44, ti_45, ti_48, ti_57, ti_59, ti_60, ti_98, ti_99, ti_100, ti_101, ti_103, ti_108, ti_110, ti_114, ti_127] at c2
    intro it205 em206
    have hI207 : I8 lg0 it205 := by rw [em206]; exact i8_u hI (ok8_2 (oq_22) (fun _ => by (try simp only [Int32.lt_iff_toInt_lt, Int32.le_iff_toInt_le, ← Int32.toInt_inj, Int32.toInt_toInt64, ti_m14, ti_m13, ti_m12, ti_m11, ti_m10, ti_m9, ti_m6, ti_m5, ti_m4, ti_m3, ti_m2, ti_m1, ti_0, ti_1, ti_2, ti_3, ti_4, ti_5, ti_6, ti_7, ti_8, ti_9, ti_10, ti_11, ti_12, ti_19, ti_20, ti_21, ti_44, ti_45, ti_48, ti_57, ti_59, ti_60, ti_98, ti_99, ti_100, ti_101, ti_103, ti_108, ti_110, ti_114, ti_127]); omega))
    have hK208 : Kc (fun j => (22 ≤ j ∧ j < 25)) lg0 it0 lg0 it205 := by rw [em206]; exact kc_u (by first | omega | (dsimp only; omega)) hKr
    subst hp
    exact ⟨hI207, hK208⟩
set_option maxRecDepth 100000 in
theorem s_X8_after (a1 : Int32) {lg0 : LGt} {it0 : ITt} (hI : I8 lg0 it0) : w_X8_after a1 (fun (v : Int32) (lg' : LGt) (it' : ITt) => (I8 lg' it' ∧ Kc (fun j => (450 ≤ j ∧ j < 467) ∨ (55 ≤ j ∧ j < 450) ∨ (486 ≤ j ∧ j < 489)) lg0 it0 lg' it'))  lg0 it0 := by
  have hb_a1 := And.intro a1.le_toInt a1.toInt_lt
  have hKr : Kc (fun j => (450 ≤ j ∧ j < 467) ∨ (55 ≤ j ∧ j < 450) ∨ (486 ≤ j ∧ j < 489)) lg0 it0 lg0 it0 := kc_r
  generalize hp : (fun (v : Int32) (lg' : LGt) (it' : ITt) => (I8 lg' it' ∧ Kc (fun j => (450 ≤ j ∧ j < 467) ∨ (55 ≤ j ∧ j < 450) ∨ (486 ≤ j ∧ j < 489)) lg0 it0 lg' it')) = Pz
  unfold w_X8_after
  refine ⟨fun c1 => ?_, fun c1 => ?_⟩
  · try simp only [Int32.lt_iff_toInt_lt, Int32.le_iff_toInt_le, ← Int32.toInt_inj, Int32.toInt_toInt64, ti_m14, ti_m13, ti_m12, ti_m11, ti_m10, ti_m9, ti_m6, ti_m5, ti_m4, ti_m3, ti_m2, ti_m1, ti_0, ti_1, ti_2, ti_3, ti_4, ti_5, ti_6, ti_7, ti_8, ti_9, ti_10, ti_11, ti_12, ti_19, ti_20, ti_21, ti_44, ti_45, ti_48, ti_57, ti_59, ti_60, ti_98, ti_99, ti_100, ti_101, ti_103, ti_108, ti_110, ti_114, ti_127] at c1
    subst hp
    exact ⟨hI, hKr⟩
  · try simp only [Int32.lt_iff_toInt_lt, Int32.le_iff_toInt_le, ← Int32.toInt_inj, Int32.toInt_toInt64, ti_m14, ti_m13, ti_m12, ti_m11, ti_m10, ti_m9, ti_m6, ti_m5, ti_m4, ti_m3, ti_m2, ti_m1, ti_0, ti_1, ti_2, ti_3, ti_4, ti_5, ti_6, ti_7, ti_8, ti_9, ti_10, ti_11, ti_12, ti_19, ti_20, ti_21, ti_44, ti_45, ti_48, ti_57, ti_59, ti_60, ti_98, ti_99, ti_100, ti_101, ti_103, ti_108, ti_110, ti_114, ti_127] at c1
    refine ⟨fun c6 => ?_, fun c6 => ?_⟩
    · try simp only [Int32.lt_iff_toInt_lt, Int32.le_iff_toInt_le, ← Int32.toInt_inj, Int32.toInt_toInt64, ti_m14, ti_m13, ti_m12, ti_m11, ti_m10, ti_m9, ti_m6, ti_m5, ti_m4, ti_m3, ti_m2, ti_m1, ti_0, ti_1, ti_2, ti_3, ti_4, ti_5, ti_6, ti_7, ti_8, ti_9, ti_10, ti_11, ti_12, ti_19, ti_20, ti_21, ti_44, ti_45, ti_48, ti_57, ti_59, ti_60, ti_98, ti_99, ti_100, ti_101, ti_103, ti_108, ti_110, ti_114, ti_127] at c6
      refine ⟨_, s_X3_become (in_rb_450) (in_rb_2)  hI , ?_⟩
      intro lg40 it41 hq
      obtain ⟨hI42, hK43⟩ := hq
      have hK44 : Kc (fun j => (450 ≤ j ∧ j < 467) ∨ (55 ≤ j ∧ j < 450) ∨ (486 ≤ j ∧ j < 489)) lg0 it0 lg40 it41 := kc_t hKr hK43 (fun j hj => by first | omega | exact False.elim hj | (dsimp only at hj ⊢; omega))
      have lp27 : ∀ (n : Nat) (x2 : Int32) (lg : LGt) (it : ITt), I8 lg it → Kc (fun j => (450 ≤ j ∧ j < 467) ∨ (55 ≤ j ∧ j < 450) ∨ (486 ≤ j ∧ j < 489)) lg0 it0 lg it → ((0 ≤ (x2).toInt)) → (9 - (x2).toInt).toNat < n → w_X8_after_b27 a1 Pz  n x2 lg it := by
        intro n27
        induction n27 with
        | zero => intro x2 lg it _ _ _ hn; exact absurd hn (Nat.not_lt_zero _)
        | succ n27 ih27 =>
          intro x2 lg49 it50 hI47 hK48 hv hn
          unfold w_X8_after_b27
          have hv27_0 := hv
          have f51 : 0 ≤ (it50 22 2).toInt ∧ (it50 22 2).toInt ≤ 8 := by have h := i8_2 hI47 oq_22; rw [lq_23] at h; exact h
          refine ⟨fun c38 => ?_, fun c38 => ?_⟩
          · try simp only [Int32.lt_iff_toInt_lt, Int32.le_iff_toInt_le, ← Int32.toInt_inj, Int32.toInt_toInt64, ti_m14, ti_m13, ti_m12, ti_m11, ti_m10, ti_m9, ti_m6, ti_m5, ti_m4, ti_m3, ti_m2, ti_m1, ti_0, ti_1, ti_2, ti_3, ti_4, ti_5, ti_6, ti_7, ti_8, ti_9, ti_10, ti_11, ti_12, ti_19, ti_20, ti_21, ti_44, ti_45, ti_48, ti_57, ti_59, ti_60, ti_98, ti_99, ti_100, ti_101, ti_103, ti_108, ti_110, ti_114, ti_127] at c38
            refine ⟨_, s_X0_work (in_rb_450) ((20 : Int32)) hI47 , ?_⟩
            intro lg52 it53 hq
            obtain ⟨hI54, hK55⟩ := hq
            have hK56 : Kc (fun j => (450 ≤ j ∧ j < 467) ∨ (55 ≤ j ∧ j < 450) ∨ (486 ≤ j ∧ j < 489)) lg0 it0 lg52 it53 := kc_t hK48 hK55 (fun j hj => by first | omega | exact False.elim hj | (dsimp only at hj ⊢; omega))
            try have e59 : (it53 22 2).toInt = (it50 22 2).toInt := congrArg (fun f => Int32.toInt (f 2)) (hK55 22 (by first | omega | (dsimp only; omega))).2
            refine ⟨fun c93 => ?_, fun c93 => ?_⟩
            · try simp only [Int32.lt_iff_toInt_lt, Int32.le_iff_toInt_le, ← Int32.toInt_inj, Int32.toInt_toInt64, ti_m14, ti_m13, ti_m12, ti_m11, ti_m10, ti_m9, ti_m6, ti_m5, ti_m4, ti_m3, ti_m2, ti_m1, ti_0, ti_1, ti_2, ti_3, ti_4, ti_5, ti_6, ti_7, ti_8, ti_9, ti_10, ti_11, ti_12, ti_19, ti_20, ti_21, ti_44, ti_45, ti_48, ti_57, ti_59, ti_60, ti_98, ti_99, ti_100, ti_101, ti_103, ti_108, ti_110, ti_114, ti_127] at c93
              refine ⟨fun c106 => ?_, fun c106 => ?_⟩
              · try simp only [Int32.lt_iff_toInt_lt, Int32.le_iff_toInt_le, ← Int32.toInt_inj, Int32.toInt_toInt64, ti_m14, ti_m13, ti_m12, ti_m11, ti_m10, ti_m9, ti_m6, ti_m5, ti_m4, ti_m3, ti_m2, ti_m1, ti_0, ti_1, ti_2, ti_3, ti_4, ti_5, ti_6, ti_7, ti_8, ti_9, ti_10, ti_11, ti_12, ti_19, ti_20, ti_21, ti_44, ti_45, ti_48, ti_57, ti_59, ti_60, ti_98, ti_99, ti_100, ti_101, ti_103, ti_108, ti_110, ti_114, ti_127] at c106
                have f60 : 0 ≤ (it53 55 3).toInt ∧ (it53 55 3).toInt ≤ 20 := i8_0 hI54
                refine ⟨fun c124 => ?_, fun c124 => ?_⟩
                · try simp only [Int32.lt_iff_toInt_lt, Int32.le_iff_toInt_le, ← Int32.toInt_inj, Int32.toInt_toInt64, ti_m14, ti_m13, ti_m12, ti_m11, ti_m10, ti_m9, ti_m6, ti_m5, ti_m4, ti_m3, ti_m2, ti_m1, ti_0, ti_1, ti_2, ti_3, ti_4, ti_5, ti_6, ti_7, ti_8, ti_9, ti_10, ti_11, ti_12, ti_19, ti_20, ti_21, ti_44, ti_45, ti_48, ti_57, ti_59, ti_60, ti_98, ti_99, ti_100, ti_101, ti_103, ti_108, ti_110, ti_114, ti_127] at c124
                  subst hp
                  exact ⟨hI54, hK56⟩
                · try simp only [Int32.lt_iff_toInt_lt, Int32.le_iff_toInt_le, ← Int32.toInt_inj, Int32.toInt_toInt64, ti_m14, ti_m13, ti_m12, ti_m11, ti_m10, ti_m9, ti_m6, ti_m5, ti_m4, ti_m3, ti_m2, ti_m1, ti_0, ti_1, ti_2, ti_3, ti_4, ti_5, ti_6, ti_7, ti_8, ti_9, ti_10, ti_11, ti_12, ti_19, ti_20, ti_21, ti_44, ti_45, ti_48, ti_57, ti_59, ti_60, ti_98, ti_99, ti_100, ti_101, ti_103, ti_108, ti_110, ti_114, ti_127] at c124
                  subst hp
                  exact ⟨hI54, hK56⟩
              · try simp only [Int32.lt_iff_toInt_lt, Int32.le_iff_toInt_le, ← Int32.toInt_inj, Int32.toInt_toInt64, ti_m14, ti_m13, ti_m12, ti_m11, ti_m10, ti_m9, ti_m6, ti_m5, ti_m4, ti_m3, ti_m2, ti_m1, ti_0, ti_1, ti_2, ti_3, ti_4, ti_5, ti_6, ti_7, ti_8, ti_9, ti_10, ti_11, ti_12, ti_19, ti_20, ti_21, ti_44, ti_45, ti_48, ti_57, ti_59, ti_60, ti_98, ti_99, ti_100, ti_101, ti_103, ti_108, ti_110, ti_114, ti_127] at c106
                subst hp
                exact ⟨hI54, hK56⟩
            · try simp only [Int32.lt_iff_toInt_lt, Int32.le_iff_toInt_le, ← Int32.toInt_inj, Int32.toInt_toInt64, ti_m14, ti_m13, ti_m12, ti_m11, ti_m10, ti_m9, ti_m6, ti_m5, ti_m4, ti_m3, ti_m2, ti_m1, ti_0, ti_1, ti_2, ti_3, ti_4, ti_5, ti_6, ti_7, ti_8, ti_9, ti_10, ti_11, ti_12, ti_19, ti_20, ti_21, ti_44, ti_45, ti_48, ti_57, ti_59, ti_60, ti_98, ti_99, ti_100, ti_101, ti_103, ti_108, ti_110, ti_114, ti_127] at c93
              have f61 : 0 ≤ (it53 55 3).toInt ∧ (it53 55 3).toInt ≤ 20 := i8_0 hI54
              subst hp
              exact ⟨hI54, hK56⟩
          · try simp only [Int32.lt_iff_toInt_lt, Int32.le_iff_toInt_le, ← Int32.toInt_inj, Int32.toInt_toInt64, ti_m14, ti_m13, ti_m12, ti_m11, ti_m10, ti_m9, ti_m6, ti_m5, ti_m4, ti_m3, ti_m2, ti_m1, ti_0, ti_1, ti_2, ti_3, ti_4, ti_5, ti_6, ti_7, ti_8, ti_9, ti_10, ti_11, ti_12, ti_19, ti_20, ti_21, ti_44, ti_45, ti_48, ti_57, ti_59, ti_60, ti_98, ti_99, ti_100, ti_101, ti_103, ti_108, ti_110, ti_114, ti_127] at c38
            have hi62 : vp_in x2 8 := vp_of (by first | omega | ((try simp only [Int32.lt_iff_toInt_lt, Int32.le_iff_toInt_le, ← Int32.toInt_inj, Int32.toInt_toInt64, ti_m14, ti_m13, ti_m12, ti_m11, ti_m10, ti_m9, ti_m6, ti_m5, ti_m4, ti_m3, ti_m2, ti_m1, ti_0, ti_1, ti_2, ti_3, ti_4, ti_5, ti_6, ti_7, ti_8, ti_9, ti_10, ti_11, ti_12, ti_19, ti_20, ti_21, ti_44, ti_45, ti_48, ti_57, ti_59, ti_60, ti_98, ti_99, ti_100, ti_101, ti_103, ti_108, ti_110, ti_114, ti_127]); omega) | (split <;> omega)) (by first | omega | ((try simp only [Int32.lt_iff_toInt_lt, Int32.le_iff_toInt_le, ← Int32.toInt_inj, Int32.toInt_toInt64, ti_m14, ti_m13, ti_m12, ti_m11, ti_m10, ti_m9, ti_m6, ti_m5, ti_m4, ti_m3, ti_m2, ti_m1, ti_0, ti_1, ti_2, ti_3, ti_4, ti_5, ti_6, ti_7, ti_8, ti_9, ti_10, ti_11, ti_12, ti_19, ti_20, ti_21, ti_44, ti_45, ti_48, ti_57, ti_59, ti_60, ti_98, ti_99, ti_100, ti_101, ti_103, ti_108, ti_110, ti_114, ti_127]); omega) | (split <;> omega))
            refine ⟨hi62, ?_⟩
            have hz63 := vlt hi62
            have hi64 : vp_in x2 8 := vp_of (by first | omega | ((try simp only [Int32.lt_iff_toInt_lt, Int32.le_iff_toInt_le, ← Int32.toInt_inj, Int32.toInt_toInt64, ti_m14, ti_m13, ti_m12, ti_m11, ti_m10, ti_m9, ti_m6, ti_m5, ti_m4, ti_m3, ti_m2, ti_m1, ti_0, ti_1, ti_2, ti_3, ti_4, ti_5, ti_6, ti_7, ti_8, ti_9, ti_10, ti_11, ti_12, ti_19, ti_20, ti_21, ti_44, ti_45, ti_48, ti_57, ti_59, ti_60, ti_98, ti_99, ti_100, ti_101, ti_103, ti_108, ti_110, ti_114, ti_127]); omega) | (split <;> omega)) (by first | omega | ((try simp only [Int32.lt_iff_toInt_lt, Int32.le_iff_toInt_le, ← Int32.toInt_inj, Int32.toInt_toInt64, ti_m14, ti_m13, ti_m12, ti_m11, ti_m10, ti_m9, ti_m6, ti_m5, ti_m4, ti_m3, ti_m2, ti_m1, ti_0, ti_1, ti_2, ti_3, ti_4, ti_5, ti_6, ti_7, ti_8, ti_9, ti_10, ti_11, ti_12, ti_19, ti_20, ti_21, ti_44, ti_45, ti_48, ti_57, ti_59, ti_60, ti_98, ti_99, ti_100, ti_101, ti_103, ti_108, ti_110, ti_114, ti_127]); omega) | (split <;> omega))
            refine ⟨hi64, ?_⟩
            have hz65 := vlt hi64
            refine ⟨_, s_X8_happen (in_rb_450) ((it50 23 x2.toNatClampNeg)) ((it50 24 x2.toNatClampNeg)) hI47 , ?_⟩
            intro lg66 it67 hq
            obtain ⟨hI68, hK69⟩ := hq
            have hK70 : Kc (fun j => (450 ≤ j ∧ j < 467) ∨ (55 ≤ j ∧ j < 450) ∨ (486 ≤ j ∧ j < 489)) lg0 it0 lg66 it67 := kc_t hK48 hK69 (fun j hj => by first | omega | exact False.elim hj | (dsimp only at hj ⊢; omega))
            try have e73 : (it67 22 2).toInt = (it50 22 2).toInt := congrArg (fun f => Int32.toInt (f 2)) (hK69 22 (by first | omega | (dsimp only; omega))).2
            try have f74 : ((x2 + 1) : Int32).toInt = (x2).toInt + 1 := ad32 (a := (x2).toInt) (b := 1) (rfl) (ti_1) (by omega) (by omega)
            exact ih27 ((x2 + 1)) _ _ hI68 hK70 (by first | omega | assumption) (by omega)
      have t75 := ti_0
      exact ⟨_, lp27 ((9 - ((0 : Int32)).toInt).toNat + 1) ((0 : Int32)) _ _ hI42 hK44 (by first | omega | assumption) (Nat.lt_succ_self _)⟩
    · try simp only [Int32.lt_iff_toInt_lt, Int32.le_iff_toInt_le, ← Int32.toInt_inj, Int32.toInt_toInt64, ti_m14, ti_m13, ti_m12, ti_m11, ti_m10, ti_m9, ti_m6, ti_m5, ti_m4, ti_m3, ti_m2, ti_m1, ti_0, ti_1, ti_2, ti_3, ti_4, ti_5, ti_6, ti_7, ti_8, ti_9, ti_10, ti_11, ti_12, ti_19, ti_20, ti_21, ti_44, ti_45, ti_48, ti_57, ti_59, ti_60, ti_98, ti_99, ti_100, ti_101, ti_103, ti_108, ti_110, ti_114, ti_127] at c6
      subst hp
      exact ⟨hI, hKr⟩
set_option maxRecDepth 100000 in
theorem s_X8_book (a1 : Int32) (a2 : Int32) {lg0 : LGt} {it0 : ITt} (hI : I8 lg0 it0) : w_X8_book a1 a2 (fun (v : Int32) (lg' : LGt) (it' : ITt) => (I8 lg' it' ∧ Kc (fun j => (25 ≤ j ∧ j < 28)) lg0 it0 lg' it'))  lg0 it0 := by
  have hb_a1 := And.intro a1.le_toInt a1.toInt_lt
  have hb_a2 := And.intro a2.le_toInt a2.toInt_lt
  have hKr : Kc (fun j => (25 ≤ j ∧ j < 28)) lg0 it0 lg0 it0 := kc_r
  generalize hp : (fun (v : Int32) (lg' : LGt) (it' : ITt) => (I8 lg' it' ∧ Kc (fun j => (25 ≤ j ∧ j < 28)) lg0 it0 lg' it')) = Pz
  unfold w_X8_book
  refine ⟨_, s_X8_addStrike (in_pb_25) (a1) (a2) hI , ?_⟩
  intro v13 lg8 it9 hq
  obtain ⟨hI10, hK11⟩ := hq
  have hK12 : Kc (fun j => (25 ≤ j ∧ j < 28)) lg0 it0 lg8 it9 := kc_t hKr hK11 (fun j hj => by first | omega | exact False.elim hj | (dsimp only at hj ⊢; omega))
  subst hp
  exact ⟨hI10, hK12⟩
set_option maxRecDepth 100000 in
theorem s_X8_looked {lg0 : LGt} {it0 : ITt} (hI : I8 lg0 it0) : w_X8_looked  (fun (v : Int32) (lg' : LGt) (it' : ITt) => (I8 lg' it' ∧ Kc (fun j => (55 ≤ j ∧ j < 450)) lg0 it0 lg' it'))  lg0 it0 := by
  have hKr : Kc (fun j => (55 ≤ j ∧ j < 450)) lg0 it0 lg0 it0 := kc_r
  generalize hp : (fun (v : Int32) (lg' : LGt) (it' : ITt) => (I8 lg' it' ∧ Kc (fun j => (55 ≤ j ∧ j < 450)) lg0 it0 lg' it')) = Pz
  unfold w_X8_looked
  refine ⟨_, s_X0_work (in_rb_2) ((20 : Int32)) hI , ?_⟩
  intro lg15 it16 hq
  obtain ⟨hI17, hK18⟩ := hq
  have hK19 : Kc (fun j => (55 ≤ j ∧ j < 450)) lg0 it0 lg15 it16 := kc_t hKr hK18 (fun j hj => by first | omega | exact False.elim hj | (dsimp only at hj ⊢; omega))
  refine ⟨_, s_X0_firstUnlike (in_pb_25)  hI17 , ?_⟩
  intro v27 lg22 it23 hq
  obtain ⟨hI24, hK25⟩ := hq
  have hK26 : Kc (fun j => (55 ≤ j ∧ j < 450)) lg0 it0 lg22 it23 := kc_t hK19 hK25 (fun j hj => by first | omega | exact False.elim hj | (dsimp only at hj ⊢; omega))
  subst hp
  exact ⟨hI24, hK26⟩
set_option maxRecDepth 100000 in
theorem s_X8_judge (a1 : Int32) (a2 : Int32) {lg0 : LGt} {it0 : ITt} (hI : I8 lg0 it0) : w_X8_judge a1 a2 (fun (v : Int32) (lg' : LGt) (it' : ITt) => (I8 lg' it' ∧ Kc (fun j => (55 ≤ j ∧ j < 450)) lg0 it0 lg' it'))  lg0 it0 := by
  have hb_a1 := And.intro a1.le_toInt a1.toInt_lt
  have hb_a2 := And.intro a2.le_toInt a2.toInt_lt
  have hKr : Kc (fun j => (55 ≤ j ∧ j < 450)) lg0 it0 lg0 it0 := kc_r
  generalize hp : (fun (v : Int32) (lg' : LGt) (it' : ITt) => (I8 lg' it' ∧ Kc (fun j => (55 ≤ j ∧ j < 450)) lg0 it0 lg' it')) = Pz
  unfold w_X8_judge
  refine ⟨fun c4 => ?_, fun c4 => ?_⟩
  · try simp only [Int32.lt_iff_toInt_lt, Int32.le_iff_toInt_le, ← Int32.toInt_inj, Int32.toInt_toInt64, ti_m14, ti_m13, ti_m12, ti_m11, ti_m10, ti_m9, ti_m6, ti_m5, ti_m4, ti_m3, ti_m2, ti_m1, ti_0, ti_1, ti_2, ti_3, ti_4, ti_5, ti_6, ti_7, ti_8, ti_9, ti_10, ti_11, ti_12, ti_19, ti_20, ti_21, ti_44, ti_45, ti_48, ti_57, ti_59, ti_60, ti_98, ti_99, ti_100, ti_101, ti_103, ti_108, ti_110, ti_114, ti_127] at c4
    have hi30 : vp_in a1 6 := vp_of (by first | omega | ((try simp only [Int32.lt_iff_toInt_lt, Int32.le_iff_toInt_le, ← Int32.toInt_inj, Int32.toInt_toInt64, ti_m14, ti_m13, ti_m12, ti_m11, ti_m10, ti_m9, ti_m6, ti_m5, ti_m4, ti_m3, ti_m2, ti_m1, ti_0, ti_1, ti_2, ti_3, ti_4, ti_5, ti_6, ti_7, ti_8, ti_9, ti_10, ti_11, ti_12, ti_19, ti_20, ti_21, ti_44, ti_45, ti_48, ti_57, ti_59, ti_60, ti_98, ti_99, ti_100, ti_101, ti_103, ti_108, ti_110, ti_114, ti_127]); omega) | (split <;> omega)) (by first | omega | ((try simp only [Int32.lt_iff_toInt_lt, Int32.le_iff_toInt_le, ← Int32.toInt_inj, Int32.toInt_toInt64, ti_m14, ti_m13, ti_m12, ti_m11, ti_m10, ti_m9, ti_m6, ti_m5, ti_m4, ti_m3, ti_m2, ti_m1, ti_0, ti_1, ti_2, ti_3, ti_4, ti_5, ti_6, ti_7, ti_8, ti_9, ti_10, ti_11, ti_12, ti_19, ti_20, ti_21, ti_44, ti_45, ti_48, ti_57, ti_59, ti_60, ti_98, ti_99, ti_100, ti_101, ti_103, ti_108, ti_110, ti_114, ti_127]); omega) | (split <;> omega))
    refine ⟨hi30, ?_⟩
    have hz31 := vlt hi30
    refine ⟨fun c21 => ?_, fun c21 => ?_⟩
    · try simp only [Int32.lt_iff_toInt_lt, Int32.le_iff_toInt_le, ← Int32.toInt_inj, Int32.toInt_toInt64, ti_m14, ti_m13, ti_m12, ti_m11, ti_m10, ti_m9, ti_m6, ti_m5, ti_m4, ti_m3, ti_m2, ti_m1, ti_0, ti_1, ti_2, ti_3, ti_4, ti_5, ti_6, ti_7, ti_8, ti_9, ti_10, ti_11, ti_12, ti_19, ti_20, ti_21, ti_44, ti_45, ti_48, ti_57, ti_59, ti_60, ti_98, ti_99, ti_100, ti_101, ti_103, ti_108, ti_110, ti_114, ti_127] at c21
      unfold w_X8_judge_b34
      refine ⟨_, s_X0_work (in_rb_2) ((20 : Int32)) hI , ?_⟩
      intro lg32 it33 hq
      obtain ⟨hI34, hK35⟩ := hq
      have hK36 : Kc (fun j => (55 ≤ j ∧ j < 450)) lg0 it0 lg32 it33 := kc_t hKr hK35 (fun j hj => by first | omega | exact False.elim hj | (dsimp only at hj ⊢; omega))
      try have e39 : (it33 (474 + 2 * a1.toNatClampNeg) 0).toInt = (it0 (474 + 2 * a1.toNatClampNeg) 0).toInt := congrArg (fun f => Int32.toInt (f 0)) (hK35 (474 + 2 * a1.toNatClampNeg) (by first | omega | (dsimp only; omega))).2
      have f40 : 0 ≤ (it33 55 3).toInt ∧ (it33 55 3).toInt ≤ 20 := i8_0 hI34
      refine ⟨fun c57 => ?_, fun c57 => ?_⟩
      · try simp only [Int32.lt_iff_toInt_lt, Int32.le_iff_toInt_le, ← Int32.toInt_inj, Int32.toInt_toInt64, ti_m14, ti_m13, ti_m12, ti_m11, ti_m10, ti_m9, ti_m6, ti_m5, ti_m4, ti_m3, ti_m2, ti_m1, ti_0, ti_1, ti_2, ti_3, ti_4, ti_5, ti_6, ti_7, ti_8, ti_9, ti_10, ti_11, ti_12, ti_19, ti_20, ti_21, ti_44, ti_45, ti_48, ti_57, ti_59, ti_60, ti_98, ti_99, ti_100, ti_101, ti_103, ti_108, ti_110, ti_114, ti_127] at c57
        refine ⟨fun c64 => ?_, fun c64 => ?_⟩
        · try simp only [Int32.lt_iff_toInt_lt, Int32.le_iff_toInt_le, ← Int32.toInt_inj, Int32.toInt_toInt64, ti_m14, ti_m13, ti_m12, ti_m11, ti_m10, ti_m9, ti_m6, ti_m5, ti_m4, ti_m3, ti_m2, ti_m1, ti_0, ti_1, ti_2, ti_3, ti_4, ti_5, ti_6, ti_7, ti_8, ti_9, ti_10, ti_11, ti_12, ti_19, ti_20, ti_21, ti_44, ti_45, ti_48, ti_57, ti_59, ti_60, ti_98, ti_99, ti_100, ti_101, ti_103, ti_108, ti_110, ti_114, ti_127] at c64
          have lp73 : ∀ (n : Nat) (x4 : Int32) (lg : LGt) (it : ITt), I8 lg it → Kc (fun j => (55 ≤ j ∧ j < 450)) lg0 it0 lg it → ((0 ≤ (x4).toInt)) → (21 - (x4).toInt).toNat < n → w_X8_judge_b73 a1 a2 Pz  n x4 lg it := by
            intro n73
            induction n73 with
            | zero => intro x4 lg it _ _ _ hn; exact absurd hn (Nat.not_lt_zero _)
            | succ n73 ih73 =>
              intro x4 lg43 it44 hI41 hK42 hv hn
              unfold w_X8_judge_b73
              have hv73_0 := hv
              have f45 : 0 ≤ (it44 55 3).toInt ∧ (it44 55 3).toInt ≤ 20 := i8_0 hI41
              refine ⟨fun c82 => ?_, fun c82 => ?_⟩
              · try simp only [Int32.lt_iff_toInt_lt, Int32.le_iff_toInt_le, ← Int32.toInt_inj, Int32.toInt_toInt64, ti_m14, ti_m13, ti_m12, ti_m11, ti_m10, ti_m9, ti_m6, ti_m5, ti_m4, ti_m3, ti_m2, ti_m1, ti_0, ti_1, ti_2, ti_3, ti_4, ti_5, ti_6, ti_7, ti_8, ti_9, ti_10, ti_11, ti_12, ti_19, ti_20, ti_21, ti_44, ti_45, ti_48, ti_57, ti_59, ti_60, ti_98, ti_99, ti_100, ti_101, ti_103, ti_108, ti_110, ti_114, ti_127] at c82
                subst hp
                exact ⟨hI41, hK42⟩
              · try simp only [Int32.lt_iff_toInt_lt, Int32.le_iff_toInt_le, ← Int32.toInt_inj, Int32.toInt_toInt64, ti_m14, ti_m13, ti_m12, ti_m11, ti_m10, ti_m9, ti_m6, ti_m5, ti_m4, ti_m3, ti_m2, ti_m1, ti_0, ti_1, ti_2, ti_3, ti_4, ti_5, ti_6, ti_7, ti_8, ti_9, ti_10, ti_11, ti_12, ti_19, ti_20, ti_21, ti_44, ti_45, ti_48, ti_57, ti_59, ti_60, ti_98, ti_99, ti_100, ti_101, ti_103, ti_108, ti_110, ti_114, ti_127] at c82
                have f46 : 0 ≤ (it44 (474 + 2 * a1.toNatClampNeg) 1).toInt ∧ (it44 (474 + 2 * a1.toNatClampNeg) 1).toInt ≤ 60 := i8_6 hI41 (obt (rtp (vlt (hi30))))
                try have f47 : (((it44 (474 + 2 * a1.toNatClampNeg) 1) - x4) : Int32).toInt = ((it44 (474 + 2 * a1.toNatClampNeg) 1)).toInt - (x4).toInt := sb32 (a := ((it44 (474 + 2 * a1.toNatClampNeg) 1)).toInt) (b := (x4).toInt) (rfl) (rfl) (by omega) (by omega)
                refine ⟨fun c93 => ?_, fun c93 => ?_⟩
                · try simp only [Int32.lt_iff_toInt_lt, Int32.le_iff_toInt_le, ← Int32.toInt_inj, Int32.toInt_toInt64, ti_m14, ti_m13, ti_m12, ti_m11, ti_m10, ti_m9, ti_m6, ti_m5, ti_m4, ti_m3, ti_m2, ti_m1, ti_0, ti_1, ti_2, ti_3, ti_4, ti_5, ti_6, ti_7, ti_8, ti_9, ti_10, ti_11, ti_12, ti_19, ti_20, ti_21, ti_44, ti_45, ti_48, ti_57, ti_59, ti_60, ti_98, ti_99, ti_100, ti_101, ti_103, ti_108, ti_110, ti_114, ti_127] at c93
                  try have f48 : ((a2 + x4) : Int32).toInt = (a2).toInt + (x4).toInt := ad32 (a := (a2).toInt) (b := (x4).toInt) (rfl) (rfl) (by omega) (by omega)
                  have hi49 : vp_in (a2 + x4) 60 := vp_of (by first | omega | ((try simp only [Int32.lt_iff_toInt_lt, Int32.le_iff_toInt_le, ← Int32.toInt_inj, Int32.toInt_toInt64, ti_m14, ti_m13, ti_m12, ti_m11, ti_m10, ti_m9, ti_m6, ti_m5, ti_m4, ti_m3, ti_m2, ti_m1, ti_0, ti_1, ti_2, ti_3, ti_4, ti_5, ti_6, ti_7, ti_8, ti_9, ti_10, ti_11, ti_12, ti_19, ti_20, ti_21, ti_44, ti_45, ti_48, ti_57, ti_59, ti_60, ti_98, ti_99, ti_100, ti_101, ti_103, ti_108, ti_110, ti_114, ti_127]); omega) | (split <;> omega)) (by first | omega | ((try simp only [Int32.lt_iff_toInt_lt, Int32.le_iff_toInt_le, ← Int32.toInt_inj, Int32.toInt_toInt64, ti_m14, ti_m13, ti_m12, ti_m11, ti_m10, ti_m9, ti_m6, ti_m5, ti_m4, ti_m3, ti_m2, ti_m1, ti_0, ti_1, ti_2, ti_3, ti_4, ti_5, ti_6, ti_7, ti_8, ti_9, ti_10, ti_11, ti_12, ti_19, ti_20, ti_21, ti_44, ti_45, ti_48, ti_57, ti_59, ti_60, ti_98, ti_99, ti_100, ti_101, ti_103, ti_108, ti_110, ti_114, ti_127]); omega) | (split <;> omega))
                  refine ⟨hi49, ?_⟩
                  have hz50 := vlt hi49
                  have hi51 : vp_in x4 20 := vp_of (by first | omega | ((try simp only [Int32.lt_iff_toInt_lt, Int32.le_iff_toInt_le, ← Int32.toInt_inj, Int32.toInt_toInt64, ti_m14, ti_m13, ti_m12, ti_m11, ti_m10, ti_m9, ti_m6, ti_m5, ti_m4, ti_m3, ti_m2, ti_m1, ti_0, ti_1, ti_2, ti_3, ti_4, ti_5, ti_6, ti_7, ti_8, ti_9, ti_10, ti_11, ti_12, ti_19, ti_20, ti_21, ti_44, ti_45, ti_48, ti_57, ti_59, ti_60, ti_98, ti_99, ti_100, ti_101, ti_103, ti_108, ti_110, ti_114, ti_127]); omega) | (split <;> omega)) (by first | omega | ((try simp only [Int32.lt_iff_toInt_lt, Int32.le_iff_toInt_le, ← Int32.toInt_inj, Int32.toInt_toInt64, ti_m14, ti_m13, ti_m12, ti_m11, ti_m10, ti_m9, ti_m6, ti_m5, ti_m4, ti_m3, ti_m2, ti_m1, ti_0, ti_1, ti_2, ti_3, ti_4, ti_5, ti_6, ti_7, ti_8, ti_9, ti_10, ti_11, ti_12, ti_19, ti_20, ti_21, ti_44, ti_45, ti_48, ti_57, ti_59, ti_60, ti_98, ti_99, ti_100, ti_101, ti_103, ti_108, ti_110, ti_114, ti_127]); omega) | (split <;> omega))
                  refine ⟨hi51, ?_⟩
                  have hz52 := vlt hi51
                  refine ⟨fun c123 => ?_, fun c123 => ?_⟩
                  · try simp only [Int32.lt_iff_toInt_lt, Int32.le_iff_toInt_le, ← Int32.toInt_inj, Int32.toInt_toInt64, ti_m14, ti_m13, ti_m12, ti_m11, ti_m10, ti_m9, ti_m6, ti_m5, ti_m4, ti_m3, ti_m2, ti_m1, ti_0, ti_1, ti_2, ti_3, ti_4, ti_5, ti_6, ti_7, ti_8, ti_9, ti_10, ti_11, ti_12, ti_19, ti_20, ti_21, ti_44, ti_45, ti_48, ti_57, ti_59, ti_60, ti_98, ti_99, ti_100, ti_101, ti_103, ti_108, ti_110, ti_114, ti_127] at c123
                    try have f53 : ((x4 + 1) : Int32).toInt = (x4).toInt + 1 := ad32 (a := (x4).toInt) (b := 1) (rfl) (ti_1) (by omega) (by omega)
                    exact ih73 ((x4 + 1)) _ _ hI41 hK42 (by first | omega | assumption) (by omega)
                  · try simp only [Int32.lt_iff_toInt_lt, Int32.le_iff_toInt_le, ← Int32.toInt_inj, Int32.toInt_toInt64, ti_m14, ti_m13, ti_m12, ti_m11, ti_m10, ti_m9, ti_m6, ti_m5, ti_m4, ti_m3, ti_m2, ti_m1, ti_0, ti_1, ti_2, ti_3, ti_4, ti_5, ti_6, ti_7, ti_8, ti_9, ti_10, ti_11, ti_12, ti_19, ti_20, ti_21, ti_44, ti_45, ti_48, ti_57, ti_59, ti_60, ti_98, ti_99, ti_100, ti_101, ti_103, ti_108, ti_110, ti_114, ti_127] at c123
                    subst hp
                    exact ⟨hI41, hK42⟩
                · try simp only [Int32.lt_iff_toInt_lt, Int32.le_iff_toInt_le, ← Int32.toInt_inj, Int32.toInt_toInt64, ti_m14, ti_m13, ti_m12, ti_m11, ti_m10, ti_m9, ti_m6, ti_m5, ti_m4, ti_m3, ti_m2, ti_m1, ti_0, ti_1, ti_2, ti_3, ti_4, ti_5, ti_6, ti_7, ti_8, ti_9, ti_10, ti_11, ti_12, ti_19, ti_20, ti_21, ti_44, ti_45, ti_48, ti_57, ti_59, ti_60, ti_98, ti_99, ti_100, ti_101, ti_103, ti_108, ti_110, ti_114, ti_127] at c93
                  try have f54 : ((100 + x4) : Int32).toInt = 100 + (x4).toInt := ad32 (a := 100) (b := (x4).toInt) (ti_100) (rfl) (by omega) (by omega)
                  subst hp
                  exact ⟨hI41, hK42⟩
          have t55 := ti_0
          exact ⟨_, lp73 ((21 - ((0 : Int32)).toInt).toNat + 1) ((0 : Int32)) _ _ hI34 hK36 (by first | omega | assumption) (Nat.lt_succ_self _)⟩
        · try simp only [Int32.lt_iff_toInt_lt, Int32.le_iff_toInt_le, ← Int32.toInt_inj, Int32.toInt_toInt64, ti_m14, ti_m13, ti_m12, ti_m11, ti_m10, ti_m9, ti_m6, ti_m5, ti_m4, ti_m3, ti_m2, ti_m1, ti_0, ti_1, ti_2, ti_3, ti_4, ti_5, ti_6, ti_7, ti_8, ti_9, ti_10, ti_11, ti_12, ti_19, ti_20, ti_21, ti_44, ti_45, ti_48, ti_57, ti_59, ti_60, ti_98, ti_99, ti_100, ti_101, ti_103, ti_108, ti_110, ti_114, ti_127] at c64
          subst hp
          exact ⟨hI34, hK36⟩
      · try simp only [Int32.lt_iff_toInt_lt, Int32.le_iff_toInt_le, ← Int32.toInt_inj, Int32.toInt_toInt64, ti_m14, ti_m13, ti_m12, ti_m11, ti_m10, ti_m9, ti_m6, ti_m5, ti_m4, ti_m3, ti_m2, ti_m1, ti_0, ti_1, ti_2, ti_3, ti_4, ti_5, ti_6, ti_7, ti_8, ti_9, ti_10, ti_11, ti_12, ti_19, ti_20, ti_21, ti_44, ti_45, ti_48, ti_57, ti_59, ti_60, ti_98, ti_99, ti_100, ti_101, ti_103, ti_108, ti_110, ti_114, ti_127] at c57
        subst hp
        exact ⟨hI34, hK36⟩
    · try simp only [Int32.lt_iff_toInt_lt, Int32.le_iff_toInt_le, ← Int32.toInt_inj, Int32.toInt_toInt64, ti_m14, ti_m13, ti_m12, ti_m11, ti_m10, ti_m9, ti_m6, ti_m5, ti_m4, ti_m3, ti_m2, ti_m1, ti_0, ti_1, ti_2, ti_3, ti_4, ti_5, ti_6, ti_7, ti_8, ti_9, ti_10, ti_11, ti_12, ti_19, ti_20, ti_21, ti_44, ti_45, ti_48, ti_57, ti_59, ti_60, ti_98, ti_99, ti_100, ti_101, ti_103, ti_108, ti_110, ti_114, ti_127] at c21
      refine ⟨fun c28 => ?_, fun c28 => ?_⟩
      · try simp only [Int32.lt_iff_toInt_lt, Int32.le_iff_toInt_le, ← Int32.toInt_inj, Int32.toInt_toInt64, ti_m14, ti_m13, ti_m12, ti_m11, ti_m10, ti_m9, ti_m6, ti_m5, ti_m4, ti_m3, ti_m2, ti_m1, ti_0, ti_1, ti_2, ti_3, ti_4, ti_5, ti_6, ti_7, ti_8, ti_9, ti_10, ti_11, ti_12, ti_19, ti_20, ti_21, ti_44, ti_45, ti_48, ti_57, ti_59, ti_60, ti_98, ti_99, ti_100, ti_101, ti_103, ti_108, ti_110, ti_114, ti_127] at c28
        unfold w_X8_judge_b34
        refine ⟨_, s_X0_work (in_rb_2) ((20 : Int32)) hI , ?_⟩
        intro lg56 it57 hq
        obtain ⟨hI58, hK59⟩ := hq
        have hK60 : Kc (fun j => (55 ≤ j ∧ j < 450)) lg0 it0 lg56 it57 := kc_t hKr hK59 (fun j hj => by first | omega | exact False.elim hj | (dsimp only at hj ⊢; omega))
        try have e63 : (it57 (474 + 2 * a1.toNatClampNeg) 0).toInt = (it0 (474 + 2 * a1.toNatClampNeg) 0).toInt := congrArg (fun f => Int32.toInt (f 0)) (hK59 (474 + 2 * a1.toNatClampNeg) (by first | omega | (dsimp only; omega))).2
        have f64 : 0 ≤ (it57 55 3).toInt ∧ (it57 55 3).toInt ≤ 20 := i8_0 hI58
        refine ⟨fun c57 => ?_, fun c57 => ?_⟩
        · try simp only [Int32.lt_iff_toInt_lt, Int32.le_iff_toInt_le, ← Int32.toInt_inj, Int32.toInt_toInt64, ti_m14, ti_m13, ti_m12, ti_m11, ti_m10, ti_m9, ti_m6, ti_m5, ti_m4, ti_m3, ti_m2, ti_m1, ti_0, ti_1, ti_2, ti_3, ti_4, ti_5, ti_6, ti_7, ti_8, ti_9, ti_10, ti_11, ti_12, ti_19, ti_20, ti_21, ti_44, ti_45, ti_48, ti_57, ti_59, ti_60, ti_98, ti_99, ti_100, ti_101, ti_103, ti_108, ti_110, ti_114, ti_127] at c57
          refine ⟨fun c64 => ?_, fun c64 => ?_⟩
          · try simp only [Int32.lt_iff_toInt_lt, Int32.le_iff_toInt_le, ← Int32.toInt_inj, Int32.toInt_toInt64, ti_m14, ti_m13, ti_m12, ti_m11, ti_m10, ti_m9, ti_m6, ti_m5, ti_m4, ti_m3, ti_m2, ti_m1, ti_0, ti_1, ti_2, ti_3, ti_4, ti_5, ti_6, ti_7, ti_8, ti_9, ti_10, ti_11, ti_12, ti_19, ti_20, ti_21, ti_44, ti_45, ti_48, ti_57, ti_59, ti_60, ti_98, ti_99, ti_100, ti_101, ti_103, ti_108, ti_110, ti_114, ti_127] at c64
            have lp73 : ∀ (n : Nat) (x4 : Int32) (lg : LGt) (it : ITt), I8 lg it → Kc (fun j => (55 ≤ j ∧ j < 450)) lg0 it0 lg it → ((0 ≤ (x4).toInt)) → (21 - (x4).toInt).toNat < n → w_X8_judge_b73 a1 a2 Pz  n x4 lg it := by
              intro n73
              induction n73 with
              | zero => intro x4 lg it _ _ _ hn; exact absurd hn (Nat.not_lt_zero _)
              | succ n73 ih73 =>
                intro x4 lg67 it68 hI65 hK66 hv hn
                unfold w_X8_judge_b73
                have hv73_0 := hv
                have f69 : 0 ≤ (it68 55 3).toInt ∧ (it68 55 3).toInt ≤ 20 := i8_0 hI65
                refine ⟨fun c82 => ?_, fun c82 => ?_⟩
                · try simp only [Int32.lt_iff_toInt_lt, Int32.le_iff_toInt_le, ← Int32.toInt_inj, Int32.toInt_toInt64, ti_m14, ti_m13, ti_m12, ti_m11, ti_m10, ti_m9, ti_m6, ti_m5, ti_m4, ti_m3, ti_m2, ti_m1, ti_0, ti_1, ti_2, ti_3, ti_4, ti_5, ti_6, ti_7, ti_8, ti_9, ti_10, ti_11, ti_12, ti_19, ti_20, ti_21, ti_44, ti_45, ti_48, ti_57, ti_59, ti_60, ti_98, ti_99, ti_100, ti_101, ti_103, ti_108, ti_110, ti_114, ti_127] at c82
                  subst hp
                  exact ⟨hI65, hK66⟩
                · try simp only [Int32.lt_iff_toInt_lt, Int32.le_iff_toInt_le, ← Int32.toInt_inj, Int32.toInt_toInt64, ti_m14, ti_m13, ti_m12, ti_m11, ti_m10, ti_m9, ti_m6, ti_m5, ti_m4, ti_m3, ti_m2, ti_m1, ti_0, ti_1, ti_2, ti_3, ti_4, ti_5, ti_6, ti_7, ti_8, ti_9, ti_10, ti_11, ti_12, ti_19, ti_20, ti_21, ti_44, ti_45, ti_48, ti_57, ti_59, ti_60, ti_98, ti_99, ti_100, ti_101, ti_103, ti_108, ti_110, ti_114, ti_127] at c82
                  have f70 : 0 ≤ (it68 (474 + 2 * a1.toNatClampNeg) 1).toInt ∧ (it68 (474 + 2 * a1.toNatClampNeg) 1).toInt ≤ 60 := i8_6 hI65 (obt (rtp (vlt (hi30))))
                  try have f71 : (((it68 (474 + 2 * a1.toNatClampNeg) 1) - x4) : Int32).toInt = ((it68 (474 + 2 * a1.toNatClampNeg) 1)).toInt - (x4).toInt := sb32 (a := ((it68 (474 + 2 * a1.toNatClampNeg) 1)).toInt) (b := (x4).toInt) (rfl) (rfl) (by omega) (by omega)
                  refine ⟨fun c93 => ?_, fun c93 => ?_⟩
                  · try simp only [Int32.lt_iff_toInt_lt, Int32.le_iff_toInt_le, ← Int32.toInt_inj, Int32.toInt_toInt64, ti_m14, ti_m13, ti_m12, ti_m11, ti_m10, ti_m9, ti_m6, ti_m5, ti_m4, ti_m3, ti_m2, ti_m1, ti_0, ti_1, ti_2, ti_3, ti_4, ti_5, ti_6, ti_7, ti_8, ti_9, ti_10, ti_11, ti_12, ti_19, ti_20, ti_21, ti_44, ti_45, ti_48, ti_57, ti_59, ti_60, ti_98, ti_99, ti_100, ti_101, ti_103, ti_108, ti_110, ti_114, ti_127] at c93
                    try have f72 : ((a2 + x4) : Int32).toInt = (a2).toInt + (x4).toInt := ad32 (a := (a2).toInt) (b := (x4).toInt) (rfl) (rfl) (by omega) (by omega)
                    have hi73 : vp_in (a2 + x4) 60 := vp_of (by first | omega | ((try simp only [Int32.lt_iff_toInt_lt, Int32.le_iff_toInt_le, ← Int32.toInt_inj, Int32.toInt_toInt64, ti_m14, ti_m13, ti_m12, ti_m11, ti_m10, ti_m9, ti_m6, ti_m5, ti_m4, ti_m3, ti_m2, ti_m1, ti_0, ti_1, ti_2, ti_3, ti_4, ti_5, ti_6, ti_7, ti_8, ti_9, ti_10, ti_11, ti_12, ti_19, ti_20, ti_21, ti_44, ti_45, ti_48, ti_57, ti_59, ti_60, ti_98, ti_99, ti_100, ti_101, ti_103, ti_108, ti_110, ti_114, ti_127]); omega) | (split <;> omega)) (by first | omega | ((try simp only [Int32.lt_iff_toInt_lt, Int32.le_iff_toInt_le, ← Int32.toInt_inj, Int32.toInt_toInt64, ti_m14, ti_m13, ti_m12, ti_m11, ti_m10, ti_m9, ti_m6, ti_m5, ti_m4, ti_m3, ti_m2, ti_m1, ti_0, ti_1, ti_2, ti_3, ti_4, ti_5, ti_6, ti_7, ti_8, ti_9, ti_10, ti_11, ti_12, ti_19, ti_20, ti_21, ti_44, ti_45, ti_48, ti_57, ti_59, ti_60, ti_98, ti_99, ti_100, ti_101, ti_103, ti_108, ti_110, ti_114, ti_127]); omega) | (split <;> omega))
                    refine ⟨hi73, ?_⟩
                    have hz74 := vlt hi73
                    have hi75 : vp_in x4 20 := vp_of (by first | omega | ((try simp only [Int32.lt_iff_toInt_lt, Int32.le_iff_toInt_le, ← Int32.toInt_inj, Int32.toInt_toInt64, ti_m14, ti_m13, ti_m12, ti_m11, ti_m10, ti_m9, ti_m6, ti_m5, ti_m4, ti_m3, ti_m2, ti_m1, ti_0, ti_1, ti_2, ti_3, ti_4, ti_5, ti_6, ti_7, ti_8, ti_9, ti_10, ti_11, ti_12, ti_19, ti_20, ti_21, ti_44, ti_45, ti_48, ti_57, ti_59, ti_60, ti_98, ti_99, ti_100, ti_101, ti_103, ti_108, ti_110, ti_114, ti_127]); omega) | (split <;> omega)) (by first | omega | ((try simp only [Int32.lt_iff_toInt_lt, Int32.le_iff_toInt_le, ← Int32.toInt_inj, Int32.toInt_toInt64, ti_m14, ti_m13, ti_m12, ti_m11, ti_m10, ti_m9, ti_m6, ti_m5, ti_m4, ti_m3, ti_m2, ti_m1, ti_0, ti_1, ti_2, ti_3, ti_4, ti_5, ti_6, ti_7, ti_8, ti_9, ti_10, ti_11, ti_12, ti_19, ti_20, ti_21, ti_44, ti_45, ti_48, ti_57, ti_59, ti_60, ti_98, ti_99, ti_100, ti_101, ti_103, ti_108, ti_110, ti_114, ti_127]); omega) | (split <;> omega))
                    refine ⟨hi75, ?_⟩
                    have hz76 := vlt hi75
                    refine ⟨fun c123 => ?_, fun c123 => ?_⟩
                    · try simp only [Int32.lt_iff_toInt_lt, Int32.le_iff_toInt_le, ← Int32.toInt_inj, Int32.toInt_toInt64, ti_m14, ti_m13, ti_m12, ti_m11, ti_m10, ti_m9, ti_m6, ti_m5, ti_m4, ti_m3, ti_m2, ti_m1, ti_0, ti_1, ti_2, ti_3, ti_4, ti_5, ti_6, ti_7, ti_8, ti_9, ti_10, ti_11, ti_12, ti_19, ti_20, ti_21, ti_44, ti_45, ti_48, ti_57, ti_59, ti_60, ti_98, ti_99, ti_100, ti_101, ti_103, ti_108, ti_110, ti_114, ti_127] at c123
                      try have f77 : ((x4 + 1) : Int32).toInt = (x4).toInt + 1 := ad32 (a := (x4).toInt) (b := 1) (rfl) (ti_1) (by omega) (by omega)
                      exact ih73 ((x4 + 1)) _ _ hI65 hK66 (by first | omega | assumption) (by omega)
                    · try simp only [Int32.lt_iff_toInt_lt, Int32.le_iff_toInt_le, ← Int32.toInt_inj, Int32.toInt_toInt64, ti_m14, ti_m13, ti_m12, ti_m11, ti_m10, ti_m9, ti_m6, ti_m5, ti_m4, ti_m3, ti_m2, ti_m1, ti_0, ti_1, ti_2, ti_3, ti_4, ti_5, ti_6, ti_7, ti_8, ti_9, ti_10, ti_11, ti_12, ti_19, ti_20, ti_21, ti_44, ti_45, ti_48, ti_57, ti_59, ti_60, ti_98, ti_99, ti_100, ti_101, ti_103, ti_108, ti_110, ti_114, ti_127] at c123
                      subst hp
                      exact ⟨hI65, hK66⟩
                  · try simp only [Int32.lt_iff_toInt_lt, Int32.le_iff_toInt_le, ← Int32.toInt_inj, Int32.toInt_toInt64, ti_m14, ti_m13, ti_m12, ti_m11, ti_m10, ti_m9, ti_m6, ti_m5, ti_m4, ti_m3, ti_m2, ti_m1, ti_0, ti_1, ti_2, ti_3, ti_4, ti_5, ti_6, ti_7, ti_8, ti_9, ti_10, ti_11, ti_12, ti_19, ti_20, ti_21, ti_44, ti_45, ti_48, ti_57, ti_59, ti_60, ti_98, ti_99, ti_100, ti_101, ti_103, ti_108, ti_110, ti_114, ti_127] at c93
                    try have f78 : ((100 + x4) : Int32).toInt = 100 + (x4).toInt := ad32 (a := 100) (b := (x4).toInt) (ti_100) (rfl) (by omega) (by omega)
                    subst hp
                    exact ⟨hI65, hK66⟩
            have t79 := ti_0
            exact ⟨_, lp73 ((21 - ((0 : Int32)).toInt).toNat + 1) ((0 : Int32)) _ _ hI58 hK60 (by first | omega | assumption) (Nat.lt_succ_self _)⟩
          · try simp only [Int32.lt_iff_toInt_lt, Int32.le_iff_toInt_le, ← Int32.toInt_inj, Int32.toInt_toInt64, ti_m14, ti_m13, ti_m12, ti_m11, ti_m10, ti_m9, ti_m6, ti_m5, ti_m4, ti_m3, ti_m2, ti_m1, ti_0, ti_1, ti_2, ti_3, ti_4, ti_5, ti_6, ti_7, ti_8, ti_9, ti_10, ti_11, ti_12, ti_19, ti_20, ti_21, ti_44, ti_45, ti_48, ti_57, ti_59, ti_60, ti_98, ti_99, ti_100, ti_101, ti_103, ti_108, ti_110, ti_114, ti_127] at c64
            subst hp
            exact ⟨hI58, hK60⟩
        · try simp only [Int32.lt_iff_toInt_lt, Int32.le_iff_toInt_le, ← Int32.toInt_inj, Int32.toInt_toInt64, ti_m14, ti_m13, ti_m12, ti_m11, ti_m10, ti_m9, ti_m6, ti_m5, ti_m4, ti_m3, ti_m2, ti_m1, ti_0, ti_1, ti_2, ti_3, ti_4, ti_5, ti_6, ti_7, ti_8, ti_9, ti_10, ti_11, ti_12, ti_19, ti_20, ti_21, ti_44, ti_45, ti_48, ti_57, ti_59, ti_60, ti_98, ti_99, ti_100, ti_101, ti_103, ti_108, ti_110, ti_114, ti_127] at c57
          subst hp
          exact ⟨hI58, hK60⟩
      · try simp only [Int32.lt_iff_toInt_lt, Int32.le_iff_toInt_le, ← Int32.toInt_inj, Int32.toInt_toInt64, ti_m14, ti_m13, ti_m12, ti_m11, ti_m10, ti_m9, ti_m6, ti_m5, ti_m4, ti_m3, ti_m2, ti_m1, ti_0, ti_1, ti_2, ti_3, ti_4, ti_5, ti_6, ti_7, ti_8, ti_9, ti_10, ti_11, ti_12, ti_19, ti_20, ti_21, ti_44, ti_45, ti_48, ti_57, ti_59, ti_60, ti_98, ti_99, ti_100, ti_101, ti_103, ti_108, ti_110, ti_114, ti_127] at c28
        subst hp
        exact ⟨hI, hKr⟩
  · try simp only [Int32.lt_iff_toInt_lt, Int32.le_iff_toInt_le, ← Int32.toInt_inj, Int32.toInt_toInt64, ti_m14, ti_m13, ti_m12, ti_m11, ti_m10, ti_m9, ti_m6, ti_m5, ti_m4, ti_m3, ti_m2, ti_m1, ti_0, ti_1, ti_2, ti_3, ti_4, ti_5, ti_6, ti_7, ti_8, ti_9, ti_10, ti_11, ti_12, ti_19, ti_20, ti_21, ti_44, ti_45, ti_48, ti_57, ti_59, ti_60, ti_98, ti_99, ti_100, ti_101, ti_103, ti_108, ti_110, ti_114, ti_127] at c4
    subst hp
    exact ⟨hI, hKr⟩
set_option maxRecDepth 100000 in
theorem s_X8_image {lg0 : LGt} {it0 : ITt} (hI : I8 lg0 it0) : w_X8_image  (fun (v : Int32) (lg' : LGt) (it' : ITt) => (I8 lg' it' ∧ Kc (fun j => (28 ≤ j ∧ j < 55) ∨ (0 ≤ j ∧ j < 1)) lg0 it0 lg' it'))  lg0 it0 := by
  have hKr : Kc (fun j => (28 ≤ j ∧ j < 55) ∨ (0 ≤ j ∧ j < 1)) lg0 it0 lg0 it0 := kc_r
  generalize hp : (fun (v : Int32) (lg' : LGt) (it' : ITt) => (I8 lg' it' ∧ Kc (fun j => (28 ≤ j ∧ j < 55) ∨ (0 ≤ j ∧ j < 1)) lg0 it0 lg' it')) = Pz
  unfold w_X8_image
  refine ⟨_, s_X4_become (in_sb_28) (in_sb_1)  hI , ?_⟩
  intro lg10 it11 hq
  obtain ⟨hI12, hK13⟩ := hq
  have hK14 : Kc (fun j => (28 ≤ j ∧ j < 55) ∨ (0 ≤ j ∧ j < 1)) lg0 it0 lg10 it11 := kc_t hKr hK13 (fun j hj => by first | omega | exact False.elim hj | (dsimp only at hj ⊢; omega))
  intro it17 em18
  have hI19 : I8 lg10 it17 := by rw [em18]; exact i8_u hI12 (ok8_a (oq_0) (by decide))
  have hK20 : Kc (fun j => (28 ≤ j ∧ j < 55) ∨ (0 ≤ j ∧ j < 1)) lg0 it0 lg10 it17 := by rw [em18]; exact kc_u (by first | omega | (dsimp only; omega)) hK14
  have f21 : 0 ≤ (it17 2 0).toInt ∧ (it17 2 0).toInt ≤ 6 := i8_3 hI19 (oq_2)
  subst hp
  exact ⟨hI19, hK20⟩
set_option maxRecDepth 100000 in
theorem s_X8_undo {lg0 : LGt} {it0 : ITt} (hI : I8 lg0 it0) : w_X8_undo  (fun (v : Int32) (lg' : LGt) (it' : ITt) => (I8 lg' it' ∧ Kc (fun j => (1 ≤ j ∧ j < 28)) lg0 it0 lg' it'))  lg0 it0 := by
  have hKr : Kc (fun j => (1 ≤ j ∧ j < 28)) lg0 it0 lg0 it0 := kc_r
  generalize hp : (fun (v : Int32) (lg' : LGt) (it' : ITt) => (I8 lg' it' ∧ Kc (fun j => (1 ≤ j ∧ j < 28)) lg0 it0 lg' it')) = Pz
  unfold w_X8_undo
  refine ⟨fun c4 => ?_, fun c4 => ?_⟩
  · try simp only [Int32.lt_iff_toInt_lt, Int32.le_iff_toInt_le, ← Int32.toInt_inj, Int32.toInt_toInt64, ti_m14, ti_m13, ti_m12, ti_m11, ti_m10, ti_m9, ti_m6, ti_m5, ti_m4, ti_m3, ti_m2, ti_m1, ti_0, ti_1, ti_2, ti_3, ti_4, ti_5, ti_6, ti_7, ti_8, ti_9, ti_10, ti_11, ti_12, ti_19, ti_20, ti_21, ti_44, ti_45, ti_48, ti_57, ti_59, ti_60, ti_98, ti_99, ti_100, ti_101, ti_103, ti_108, ti_110, ti_114, ti_127] at c4
    refine ⟨_, s_X4_become (in_sb_1) (in_sb_28)  hI , ?_⟩
    intro lg10 it11 hq
    obtain ⟨hI12, hK13⟩ := hq
    have hK14 : Kc (fun j => (1 ≤ j ∧ j < 28)) lg0 it0 lg10 it11 := kc_t hKr hK13 (fun j hj => by first | omega | exact False.elim hj | (dsimp only at hj ⊢; omega))
    try have e17 : (it11 0 2).toInt = (it0 0 2).toInt := congrArg (fun f => Int32.toInt (f 2)) (hK13 0 (by first | omega | (dsimp only; omega))).2
    have f18 : 0 ≤ (it11 2 0).toInt ∧ (it11 2 0).toInt ≤ 6 := i8_3 hI12 (oq_2)
    subst hp
    exact ⟨hI12, hK14⟩
  · try simp only [Int32.lt_iff_toInt_lt, Int32.le_iff_toInt_le, ← Int32.toInt_inj, Int32.toInt_toInt64, ti_m14, ti_m13, ti_m12, ti_m11, ti_m10, ti_m9, ti_m6, ti_m5, ti_m4, ti_m3, ti_m2, ti_m1, ti_0, ti_1, ti_2, ti_3, ti_4, ti_5, ti_6, ti_7, ti_8, ti_9, ti_10, ti_11, ti_12, ti_19, ti_20, ti_21, ti_44, ti_45, ti_48, ti_57, ti_59, ti_60, ti_98, ti_99, ti_100, ti_101, ti_103, ti_108, ti_110, ti_114, ti_127] at c4
    subst hp
    exact ⟨hI, hKr⟩
set_option maxRecDepth 100000 in
theorem s_X8_count (a1 : Int32) {lg0 : LGt} {it0 : ITt} (hI : I8 lg0 it0) : w_X8_count a1 (fun (v : Int32) (lg' : LGt) (it' : ITt) => (I8 lg' it' ∧ Kc (fun j => False) lg0 it0 lg' it'))  lg0 it0 := by
  have hb_a1 := And.intro a1.le_toInt a1.toInt_lt
  have hKr : Kc (fun j => False) lg0 it0 lg0 it0 := kc_r
  generalize hp : (fun (v : Int32) (lg' : LGt) (it' : ITt) => (I8 lg' it' ∧ Kc (fun j => False) lg0 it0 lg' it')) = Pz
  unfold w_X8_count
  refine ⟨fun c1 => ?_, fun c1 => ?_, fun c1 => ?_, fun c1 => ?_, fun c1 => ?_, trivial⟩
  · skip
    subst hp
    exact ⟨hI, hKr⟩
  · skip
    have f11 : 0 ≤ (it0 19 2).toInt ∧ (it0 19 2).toInt ≤ 5 := by have h := i8_2 hI oq_19; rw [lq_20] at h; exact h
    subst hp
    exact ⟨hI, hKr⟩
  · skip
    have f12 : 0 ≤ (it0 22 2).toInt ∧ (it0 22 2).toInt ≤ 8 := by have h := i8_2 hI oq_22; rw [lq_23] at h; exact h
    subst hp
    exact ⟨hI, hKr⟩
  · skip
    have f13 : 0 ≤ (it0 25 2).toInt ∧ (it0 25 2).toInt ≤ 8 := by have h := i8_2 hI oq_25; rw [lq_26] at h; exact h
    subst hp
    exact ⟨hI, hKr⟩
  · skip
    have f14 : 0 ≤ (it0 467 1).toInt ∧ (it0 467 1).toInt ≤ 100 := i8_71 hI
    subst hp
    exact ⟨hI, hKr⟩
set_option maxRecDepth 100000 in
theorem s_X8_tape (a1 : Int32) (a2 : Int32) (a3 : Int32) {lg0 : LGt} {it0 : ITt} (hI : I8 lg0 it0) : w_X8_tape a1 a2 a3 (fun (v : Int32) (lg' : LGt) (it' : ITt) => (I8 lg' it' ∧ Kc (fun j => (473 ≤ j ∧ j < 486)) lg0 it0 lg' it'))  lg0 it0 := by
  have hb_a1 := And.intro a1.le_toInt a1.toInt_lt
  have hb_a2 := And.intro a2.le_toInt a2.toInt_lt
  have hb_a3 := And.intro a3.le_toInt a3.toInt_lt
  have hKr : Kc (fun j => (473 ≤ j ∧ j < 486)) lg0 it0 lg0 it0 := kc_r
  generalize hp : (fun (v : Int32) (lg' : LGt) (it' : ITt) => (I8 lg' it' ∧ Kc (fun j => (473 ≤ j ∧ j < 486)) lg0 it0 lg' it')) = Pz
  unfold w_X8_tape
  refine ⟨fun c4 => ?_, fun c4 => ?_⟩
  · try simp only [Int32.lt_iff_toInt_lt, Int32.le_iff_toInt_le, ← Int32.toInt_inj, Int32.toInt_toInt64, ti_m14, ti_m13, ti_m12, ti_m11, ti_m10, ti_m9, ti_m6, ti_m5, ti_m4, ti_m3, ti_m2, ti_m1, ti_0, ti_1, ti_2, ti_3, ti_4, ti_5, ti_6, ti_7, ti_8, ti_9, ti_10, ti_11, ti_12, ti_19, ti_20, ti_21, ti_44, ti_45, ti_48, ti_57, ti_59, ti_60, ti_98, ti_99, ti_100, ti_101, ti_103, ti_108, ti_110, ti_114, ti_127] at c4
    refine ⟨fun c11 => ?_, fun c11 => ?_⟩
    · try simp only [Int32.lt_iff_toInt_lt, Int32.le_iff_toInt_le, ← Int32.toInt_inj, Int32.toInt_toInt64, ti_m14, ti_m13, ti_m12, ti_m11, ti_m10, ti_m9, ti_m6, ti_m5, ti_m4, ti_m3, ti_m2, ti_m1, ti_0, ti_1, ti_2, ti_3, ti_4, ti_5, ti_6, ti_7, ti_8, ti_9, ti_10, ti_11, ti_12, ti_19, ti_20, ti_21, ti_44, ti_45, ti_48, ti_57, ti_59, ti_60, ti_98, ti_99, ti_100, ti_101, ti_103, ti_108, ti_110, ti_114, ti_127] at c11
      subst hp
      exact ⟨hI, hKr⟩
    · try simp only [Int32.lt_iff_toInt_lt, Int32.le_iff_toInt_le, ← Int32.toInt_inj, Int32.toInt_toInt64, ti_m14, ti_m13, ti_m12, ti_m11, ti_m10, ti_m9, ti_m6, ti_m5, ti_m4, ti_m3, ti_m2, ti_m1, ti_0, ti_1, ti_2, ti_3, ti_4, ti_5, ti_6, ti_7, ti_8, ti_9, ti_10, ti_11, ti_12, ti_19, ti_20, ti_21, ti_44, ti_45, ti_48, ti_57, ti_59, ti_60, ti_98, ti_99, ti_100, ti_101, ti_103, ti_108, ti_110, ti_114, ti_127] at c11
      refine ⟨fun c16 => ?_, fun c16 => ?_⟩
      · try simp only [Int32.lt_iff_toInt_lt, Int32.le_iff_toInt_le, ← Int32.toInt_inj, Int32.toInt_toInt64, ti_m14, ti_m13, ti_m12, ti_m11, ti_m10, ti_m9, ti_m6, ti_m5, ti_m4, ti_m3, ti_m2, ti_m1, ti_0, ti_1, ti_2, ti_3, ti_4, ti_5, ti_6, ti_7, ti_8, ti_9, ti_10, ti_11, ti_12, ti_19, ti_20, ti_21, ti_44, ti_45, ti_48, ti_57, ti_59, ti_60, ti_98, ti_99, ti_100, ti_101, ti_103, ti_108, ti_110, ti_114, ti_127] at c16
        refine ⟨fun c24 => ?_, fun c24 => ?_⟩
        · try simp only [Int32.lt_iff_toInt_lt, Int32.le_iff_toInt_le, ← Int32.toInt_inj, Int32.toInt_toInt64, ti_m14, ti_m13, ti_m12, ti_m11, ti_m10, ti_m9, ti_m6, ti_m5, ti_m4, ti_m3, ti_m2, ti_m1, ti_0, ti_1, ti_2, ti_3, ti_4, ti_5, ti_6, ti_7, ti_8, ti_9, ti_10, ti_11, ti_12, ti_19, ti_20, ti_21, ti_44, ti_45, ti_48, ti_57, ti_59, ti_60, ti_98, ti_99, ti_100, ti_101, ti_103, ti_108, ti_110, ti_114, ti_127] at c24
          unfold w_X8_tape_b36
          refine ⟨fun c38 => ?_, fun c38 => ?_⟩
          · try simp only [Int32.lt_iff_toInt_lt, Int32.le_iff_toInt_le, ← Int32.toInt_inj, Int32.toInt_toInt64, ti_m14, ti_m13, ti_m12, ti_m11, ti_m10, ti_m9, ti_m6, ti_m5, ti_m4, ti_m3, ti_m2, ti_m1, ti_0, ti_1, ti_2, ti_3, ti_4, ti_5, ti_6, ti_7, ti_8, ti_9, ti_10, ti_11, ti_12, ti_19, ti_20, ti_21, ti_44, ti_45, ti_48, ti_57, ti_59, ti_60, ti_98, ti_99, ti_100, ti_101, ti_103, ti_108, ti_110, ti_114, ti_127] at c38
            unfold w_X8_tape_b48
            have hi26 : vp_in a1 6 := vp_of (by first | omega | ((try simp only [Int32.lt_iff_toInt_lt, Int32.le_iff_toInt_le, ← Int32.toInt_inj, Int32.toInt_toInt64, ti_m14, ti_m13, ti_m12, ti_m11, ti_m10, ti_m9, ti_m6, ti_m5, ti_m4, ti_m3, ti_m2, ti_m1, ti_0, ti_1, ti_2, ti_3, ti_4, ti_5, ti_6, ti_7, ti_8, ti_9, ti_10, ti_11, ti_12, ti_19, ti_20, ti_21, ti_44, ti_45, ti_48, ti_57, ti_59, ti_60, ti_98, ti_99, ti_100, ti_101, ti_103, ti_108, ti_110, ti_114, ti_127]); omega) | (split <;> omega)) (by first | omega | ((try simp only [Int32.lt_iff_toInt_lt, Int32.le_iff_toInt_le, ← Int32.toInt_inj, Int32.toInt_toInt64, ti_m14, ti_m13, ti_m12, ti_m11, ti_m10, ti_m9, ti_m6, ti_m5, ti_m4, ti_m3, ti_m2, ti_m1, ti_0, ti_1, ti_2, ti_3, ti_4, ti_5, ti_6, ti_7, ti_8, ti_9, ti_10, ti_11, ti_12, ti_19, ti_20, ti_21, ti_44, ti_45, ti_48, ti_57, ti_59, ti_60, ti_98, ti_99, ti_100, ti_101, ti_103, ti_108, ti_110, ti_114, ti_127]); omega) | (split <;> omega))
            refine ⟨hi26, ?_⟩
            have hz27 := vlt hi26
            refine ⟨fun c57 => ?_, fun c57 => ?_⟩
            · try simp only [Int32.lt_iff_toInt_lt, Int32.le_iff_toInt_le, ← Int32.toInt_inj, Int32.toInt_toInt64, ti_m14, ti_m13, ti_m12, ti_m11, ti_m10, ti_m9, ti_m6, ti_m5, ti_m4, ti_m3, ti_m2, ti_m1, ti_0, ti_1, ti_2, ti_3, ti_4, ti_5, ti_6, ti_7, ti_8, ti_9, ti_10, ti_11, ti_12, ti_19, ti_20, ti_21, ti_44, ti_45, ti_48, ti_57, ti_59, ti_60, ti_98, ti_99, ti_100, ti_101, ti_103, ti_108, ti_110, ti_114, ti_127] at c57
              unfold w_X8_tape_b65
              refine ⟨_, s_X6_renewAs ((rtp (vlt (hi26)))) (a2) (a3) hI (by first | omega | (constructor <;> first | omega | ((try simp only [Int32.lt_iff_toInt_lt, Int32.le_iff_toInt_le, ← Int32.toInt_inj, Int32.toInt_toInt64, ti_m14, ti_m13, ti_m12, ti_m11, ti_m10, ti_m9, ti_m6, ti_m5, ti_m4, ti_m3, ti_m2, ti_m1, ti_0, ti_1, ti_2, ti_3, ti_4, ti_5, ti_6, ti_7, ti_8, ti_9, ti_10, ti_11, ti_12, ti_19, ti_20, ti_21, ti_44, ti_45, ti_48, ti_57, ti_59, ti_60, ti_98, ti_99, ti_100, ti_101, ti_103, ti_108, ti_110, ti_114, ti_127]); omega))), ?_⟩
              intro lg28 it29 hq
              obtain ⟨hI30, hK31⟩ := hq
              have hK32 : Kc (fun j => (473 ≤ j ∧ j < 486)) lg0 it0 lg28 it29 := kc_t hKr hK31 (fun j hj => by first | omega | exact False.elim hj | (dsimp only at hj ⊢; omega))
              subst hp
              exact ⟨hI30, hK32⟩
            · try simp only [Int32.lt_iff_toInt_lt, Int32.le_iff_toInt_le, ← Int32.toInt_inj, Int32.toInt_toInt64, ti_m14, ti_m13, ti_m12, ti_m11, ti_m10, ti_m9, ti_m6, ti_m5, ti_m4, ti_m3, ti_m2, ti_m1, ti_0, ti_1, ti_2, ti_3, ti_4, ti_5, ti_6, ti_7, ti_8, ti_9, ti_10, ti_11, ti_12, ti_19, ti_20, ti_21, ti_44, ti_45, ti_48, ti_57, ti_59, ti_60, ti_98, ti_99, ti_100, ti_101, ti_103, ti_108, ti_110, ti_114, ti_127] at c57
              unfold w_X8_tape_b65
              refine ⟨_, s_X6_renewAs ((rtp (vlt (hi26)))) (a2) ((0 : Int32)) hI (by first | omega | (constructor <;> first | omega | ((try simp only [Int32.lt_iff_toInt_lt, Int32.le_iff_toInt_le, ← Int32.toInt_inj, Int32.toInt_toInt64, ti_m14, ti_m13, ti_m12, ti_m11, ti_m10, ti_m9, ti_m6, ti_m5, ti_m4, ti_m3, ti_m2, ti_m1, ti_0, ti_1, ti_2, ti_3, ti_4, ti_5, ti_6, ti_7, ti_8, ti_9, ti_10, ti_11, ti_12, ti_19, ti_20, ti_21, ti_44, ti_45, ti_48, ti_57, ti_59, ti_60, ti_98, ti_99, ti_100, ti_101, ti_103, ti_108, ti_110, ti_114, ti_127]); omega))), ?_⟩
              intro lg35 it36 hq
              obtain ⟨hI37, hK38⟩ := hq
              have hK39 : Kc (fun j => (473 ≤ j ∧ j < 486)) lg0 it0 lg35 it36 := kc_t hKr hK38 (fun j hj => by first | omega | exact False.elim hj | (dsimp only at hj ⊢; omega))
              subst hp
              exact ⟨hI37, hK39⟩
          · try simp only [Int32.lt_iff_toInt_lt, Int32.le_iff_toInt_le, ← Int32.toInt_inj, Int32.toInt_toInt64, ti_m14, ti_m13, ti_m12, ti_m11, ti_m10, ti_m9, ti_m6, ti_m5, ti_m4, ti_m3, ti_m2, ti_m1, ti_0, ti_1, ti_2, ti_3, ti_4, ti_5, ti_6, ti_7, ti_8, ti_9, ti_10, ti_11, ti_12, ti_19, ti_20, ti_21, ti_44, ti_45, ti_48, ti_57, ti_59, ti_60, ti_98, ti_99, ti_100, ti_101, ti_103, ti_108, ti_110, ti_114, ti_127] at c38
            refine ⟨fun c42 => ?_, fun c42 => ?_⟩
            · try simp only [Int32.lt_iff_toInt_lt, Int32.le_iff_toInt_le, ← Int32.toInt_inj, Int32.toInt_toInt64, ti_m14, ti_m13, ti_m12, ti_m11, ti_m10, ti_m9, ti_m6, ti_m5, ti_m4, ti_m3, ti_m2, ti_m1, ti_0, ti_1, ti_2, ti_3, ti_4, ti_5, ti_6, ti_7, ti_8, ti_9, ti_10, ti_11, ti_12, ti_19, ti_20, ti_21, ti_44, ti_45, ti_48, ti_57, ti_59, ti_60, ti_98, ti_99, ti_100, ti_101, ti_103, ti_108, ti_110, ti_114, ti_127] at c42
              unfold w_X8_tape_b48
              have hi42 : vp_in a1 6 := vp_of (by first | omega | ((try simp only [Int32.lt_iff_toInt_lt, Int32.le_iff_toInt_le, ← Int32.toInt_inj, Int32.toInt_toInt64, ti_m14, ti_m13, ti_m12, ti_m11, ti_m10, ti_m9, ti_m6, ti_m5, ti_m4, ti_m3, ti_m2, ti_m1, ti_0, ti_1, ti_2, ti_3, ti_4, ti_5, ti_6, ti_7, ti_8, ti_9, ti_10, ti_11, ti_12, ti_19, ti_20, ti_21, ti_44, ti_45, ti_48, ti_57, ti_59, ti_60, ti_98, ti_99, ti_100, ti_101, ti_103, ti_108, ti_110, ti_114, ti_127]); omega) | (split <;> omega)) (by first | omega | ((try simp only [Int32.lt_iff_toInt_lt, Int32.le_iff_toInt_le, ← Int32.toInt_inj, Int32.toInt_toInt64, ti_m14, ti_m13, ti_m12, ti_m11, ti_m10, ti_m9, ti_m6, ti_m5, ti_m4, ti_m3, ti_m2, ti_m1, ti_0, ti_1, ti_2, ti_3, ti_4, ti_5, ti_6, ti_7, ti_8, ti_9, ti_10, ti_11, ti_12, ti_19, ti_20, ti_21, ti_44, ti_45, ti_48, ti_57, ti_59, ti_60, ti_98, ti_99, ti_100, ti_101, ti_103, ti_108, ti_110, ti_114, ti_127]); omega) | (split <;> omega))
              refine ⟨hi42, ?_⟩
              have hz43 := vlt hi42
              refine ⟨fun c57 => ?_, fun c57 => ?_⟩
              · try simp only [Int32.lt_iff_toInt_lt, Int32.le_iff_toInt_le, ← Int32.toInt_inj, Int32.toInt_toInt64, ti_m14, ti_m13, ti_m12, ti_m11, ti_m10, ti_m9, ti_m6, ti_m5, ti_m4, ti_m3, ti_m2, ti_m1, ti_0, ti_1, ti_2, ti_3, ti_4, ti_5, ti_6, ti_7, ti_8, ti_9, ti_10, ti_11, ti_12, ti_19, ti_20, ti_21, ti_44, ti_45, ti_48, ti_57, ti_59, ti_60, ti_98, ti_99, ti_100, ti_101, ti_103, ti_108, ti_110, ti_114, ti_127] at c57
                unfold w_X8_tape_b65
                refine ⟨_, s_X6_renewAs ((rtp (vlt (hi42)))) (a2) (a3) hI (by first | omega | (constructor <;> first | omega | ((try simp only [Int32.lt_iff_toInt_lt, Int32.le_iff_toInt_le, ← Int32.toInt_inj, Int32.toInt_toInt64, ti_m14, ti_m13, ti_m12, ti_m11, ti_m10, ti_m9, ti_m6, ti_m5, ti_m4, ti_m3, ti_m2, ti_m1, ti_0, ti_1, ti_2, ti_3, ti_4, ti_5, ti_6, ti_7, ti_8, ti_9, ti_10, ti_11, ti_12, ti_19, ti_20, ti_21, ti_44, ti_45, ti_48, ti_57, ti_59, ti_60, ti_98, ti_99, ti_100, ti_101, ti_103, ti_108, ti_110, ti_114, ti_127]); omega))), ?_⟩
                intro lg44 it45 hq
                obtain ⟨hI46, hK47⟩ := hq
                have hK48 : Kc (fun j => (473 ≤ j ∧ j < 486)) lg0 it0 lg44 it45 := kc_t hKr hK47 (fun j hj => by first | omega | exact False.elim hj | (dsimp only at hj ⊢; omega))
                subst hp
                exact ⟨hI46, hK48⟩
              · try simp only [Int32.lt_iff_toInt_lt, Int32.le_iff_toInt_le, ← Int32.toInt_inj, Int32.toInt_toInt64, ti_m14, ti_m13, ti_m12, ti_m11, ti_m10, ti_m9, ti_m6, ti_m5, ti_m4, ti_m3, ti_m2, ti_m1, ti_0, ti_1, ti_2, ti_3, ti_4, ti_5, ti_6, ti_7, ti_8, ti_9, ti_10, ti_11, ti_12, ti_19, ti_20, ti_21, ti_44, ti_45, ti_48, ti_57, ti_59, ti_60, ti_98, ti_99, ti_100, ti_101, ti_103, ti_108, ti_110, ti_114, ti_127] at c57
                unfold w_X8_tape_b65
                refine ⟨_, s_X6_renewAs ((rtp (vlt (hi42)))) (a2) ((0 : Int32)) hI (by first | omega | (constructor <;> first | omega | ((try simp only [Int32.lt_iff_toInt_lt, Int32.le_iff_toInt_le, ← Int32.toInt_inj, Int32.toInt_toInt64, ti_m14, ti_m13, ti_m12, ti_m11, ti_m10, ti_m9, ti_m6, ti_m5, ti_m4, ti_m3, ti_m2, ti_m1, ti_0, ti_1, ti_2, ti_3, ti_4, ti_5, ti_6, ti_7, ti_8, ti_9, ti_10, ti_11, ti_12, ti_19, ti_20, ti_21, ti_44, ti_45, ti_48, ti_57, ti_59, ti_60, ti_98, ti_99, ti_100, ti_101, ti_103, ti_108, ti_110, ti_114, ti_127]); omega))), ?_⟩
                intro lg51 it52 hq
                obtain ⟨hI53, hK54⟩ := hq
                have hK55 : Kc (fun j => (473 ≤ j ∧ j < 486)) lg0 it0 lg51 it52 := kc_t hKr hK54 (fun j hj => by first | omega | exact False.elim hj | (dsimp only at hj ⊢; omega))
                subst hp
                exact ⟨hI53, hK55⟩
            · try simp only [Int32.lt_iff_toInt_lt, Int32.le_iff_toInt_le, ← Int32.toInt_inj, Int32.toInt_toInt64, ti_m14, ti_m13, ti_m12, ti_m11, ti_m10, ti_m9, ti_m6, ti_m5, ti_m4, ti_m3, ti_m2, ti_m1, ti_0, ti_1, ti_2, ti_3, ti_4, ti_5, ti_6, ti_7, ti_8, ti_9, ti_10, ti_11, ti_12, ti_19, ti_20, ti_21, ti_44, ti_45, ti_48, ti_57, ti_59, ti_60, ti_98, ti_99, ti_100, ti_101, ti_103, ti_108, ti_110, ti_114, ti_127] at c42
              subst hp
              exact ⟨hI, hKr⟩
        · try simp only [Int32.lt_iff_toInt_lt, Int32.le_iff_toInt_le, ← Int32.toInt_inj, Int32.toInt_toInt64, ti_m14, ti_m13, ti_m12, ti_m11, ti_m10, ti_m9, ti_m6, ti_m5, ti_m4, ti_m3, ti_m2, ti_m1, ti_0, ti_1, ti_2, ti_3, ti_4, ti_5, ti_6, ti_7, ti_8, ti_9, ti_10, ti_11, ti_12, ti_19, ti_20, ti_21, ti_44, ti_45, ti_48, ti_57, ti_59, ti_60, ti_98, ti_99, ti_100, ti_101, ti_103, ti_108, ti_110, ti_114, ti_127] at c24
          refine ⟨fun c30 => ?_, fun c30 => ?_⟩
          · try simp only [Int32.lt_iff_toInt_lt, Int32.le_iff_toInt_le, ← Int32.toInt_inj, Int32.toInt_toInt64, ti_m14, ti_m13, ti_m12, ti_m11, ti_m10, ti_m9, ti_m6, ti_m5, ti_m4, ti_m3, ti_m2, ti_m1, ti_0, ti_1, ti_2, ti_3, ti_4, ti_5, ti_6, ti_7, ti_8, ti_9, ti_10, ti_11, ti_12, ti_19, ti_20, ti_21, ti_44, ti_45, ti_48, ti_57, ti_59, ti_60, ti_98, ti_99, ti_100, ti_101, ti_103, ti_108, ti_110, ti_114, ti_127] at c30
            unfold w_X8_tape_b36
            refine ⟨fun c38 => ?_, fun c38 => ?_⟩
            · try simp only [Int32.lt_iff_toInt_lt, Int32.le_iff_toInt_le, ← Int32.toInt_inj, Int32.toInt_toInt64, ti_m14, ti_m13, ti_m12, ti_m11, ti_m10, ti_m9, ti_m6, ti_m5, ti_m4, ti_m3, ti_m2, ti_m1, ti_0, ti_1, ti_2, ti_3, ti_4, ti_5, ti_6, ti_7, ti_8, ti_9, ti_10, ti_11, ti_12, ti_19, ti_20, ti_21, ti_44, ti_45, ti_48, ti_57, ti_59, ti_60, ti_98, ti_99, ti_100, ti_101, ti_103, ti_108, ti_110, ti_114, ti_127] at c38
              unfold w_X8_tape_b48
              have hi58 : vp_in a1 6 := vp_of (by first | omega | ((try simp only [Int32.lt_iff_toInt_lt, Int32.le_iff_toInt_le, ← Int32.toInt_inj, Int32.toInt_toInt64, ti_m14, ti_m13, ti_m12, ti_m11, ti_m10, ti_m9, ti_m6, ti_m5, ti_m4, ti_m3, ti_m2, ti_m1, ti_0, ti_1, ti_2, ti_3, ti_4, ti_5, ti_6, ti_7, ti_8, ti_9, ti_10, ti_11, ti_12, ti_19, ti_20, ti_21, ti_44, ti_45, ti_48, ti_57, ti_59, ti_60, ti_98, ti_99, ti_100, ti_101, ti_103, ti_108, ti_110, ti_114, ti_127]); omega) | (split <;> omega)) (by first | omega | ((try simp only [Int32.lt_iff_toInt_lt, Int32.le_iff_toInt_le, ← Int32.toInt_inj, Int32.toInt_toInt64, ti_m14, ti_m13, ti_m12, ti_m11, ti_m10, ti_m9, ti_m6, ti_m5, ti_m4, ti_m3, ti_m2, ti_m1, ti_0, ti_1, ti_2, ti_3, ti_4, ti_5, ti_6, ti_7, ti_8, ti_9, ti_10, ti_11, ti_12, ti_19, ti_20, ti_21, ti_44, ti_45, ti_48, ti_57, ti_59, ti_60, ti_98, ti_99, ti_100, ti_101, ti_103, ti_108, ti_110, ti_114, ti_127]); omega) | (split <;> omega))
              refine ⟨hi58, ?_⟩
              have hz59 := vlt hi58
              refine ⟨fun c57 => ?_, fun c57 => ?_⟩
              · try simp only [Int32.lt_iff_toInt_lt, Int32.le_iff_toInt_le, ← Int32.toInt_inj, Int32.toInt_toInt64, ti_m14, ti_m13, ti_m12, ti_m11, ti_m10, ti_m9, ti_m6, ti_m5, ti_m4, ti_m3, ti_m2, ti_m1, ti_0, ti_1, ti_2, ti_3, ti_4, ti_5, ti_6, ti_7, ti_8, ti_9, ti_10, ti_11, ti_12, ti_19, ti_20, ti_21, ti_44, ti_45, ti_48, ti_57, ti_59, ti_60, ti_98, ti_99, ti_100, ti_101, ti_103, ti_108, ti_110, ti_114, ti_127] at c57
                unfold w_X8_tape_b65
                refine ⟨_, s_X6_renewAs ((rtp (vlt (hi58)))) (a2) (a3) hI (by first | omega | (constructor <;> first | omega | ((try simp only [Int32.lt_iff_toInt_lt, Int32.le_iff_toInt_le, ← Int32.toInt_inj, Int32.toInt_toInt64, ti_m14, ti_m13, ti_m12, ti_m11, ti_m10, ti_m9, ti_m6, ti_m5, ti_m4, ti_m3, ti_m2, ti_m1, ti_0, ti_1, ti_2, ti_3, ti_4, ti_5, ti_6, ti_7, ti_8, ti_9, ti_10, ti_11, ti_12, ti_19, ti_20, ti_21, ti_44, ti_45, ti_48, ti_57, ti_59, ti_60, ti_98, ti_99, ti_100, ti_101, ti_103, ti_108, ti_110, ti_114, ti_127]); omega))), ?_⟩
                intro lg60 it61 hq
                obtain ⟨hI62, hK63⟩ := hq
                have hK64 : Kc (fun j => (473 ≤ j ∧ j < 486)) lg0 it0 lg60 it61 := kc_t hKr hK63 (fun j hj => by first | omega | exact False.elim hj | (dsimp only at hj ⊢; omega))
                subst hp
                exact ⟨hI62, hK64⟩
              · try simp only [Int32.lt_iff_toInt_lt, Int32.le_iff_toInt_le, ← Int32.toInt_inj, Int32.toInt_toInt64, ti_m14, ti_m13, ti_m12, ti_m11, ti_m10, ti_m9, ti_m6, ti_m5, ti_m4, ti_m3, ti_m2, ti_m1, ti_0, ti_1, ti_2, ti_3, ti_4, ti_5, ti_6, ti_7, ti_8, ti_9, ti_10, ti_11, ti_12, ti_19, ti_20, ti_21, ti_44, ti_45, ti_48, ti_57, ti_59, ti_60, ti_98, ti_99, ti_100, ti_101, ti_103, ti_108, ti_110, ti_114, ti_127] at c57
                unfold w_X8_tape_b65
                refine ⟨_, s_X6_renewAs ((rtp (vlt (hi58)))) (a2) ((0 : Int32)) hI (by first | omega | (constructor <;> first | omega | ((try simp only [Int32.lt_iff_toInt_lt, Int32.le_iff_toInt_le, ← Int32.toInt_inj, Int32.toInt_toInt64, ti_m14, ti_m13, ti_m12, ti_m11, ti_m10, ti_m9, ti_m6, ti_m5, ti_m4, ti_m3, ti_m2, ti_m1, ti_0, ti_1, ti_2, ti_3, ti_4, ti_5, ti_6, ti_7, ti_8, ti_9, ti_10, ti_11, ti_12, ti_19, ti_20, ti_21, ti_44, ti_45, ti_48, ti_57, ti_59, ti_60, ti_98, ti_99, ti_100, ti_101, ti_103, ti_108, ti_110, ti_114, ti_127]); omega))), ?_⟩
                intro lg67 it68 hq
                obtain ⟨hI69, hK70⟩ := hq
                have hK71 : Kc (fun j => (473 ≤ j ∧ j < 486)) lg0 it0 lg67 it68 := kc_t hKr hK70 (fun j hj => by first | omega | exact False.elim hj | (dsimp only at hj ⊢; omega))
                subst hp
                exact ⟨hI69, hK71⟩
            · try simp only [Int32.lt_iff_toInt_lt, Int32.le_iff_toInt_le, ← Int32.toInt_inj, Int32.toInt_toInt64, ti_m14, ti_m13, ti_m12, ti_m11, ti_m10, ti_m9, ti_m6, ti_m5, ti_m4, ti_m3, ti_m2, ti_m1, ti_0, ti_1, ti_2, ti_3, ti_4, ti_5, ti_6, ti_7, ti_8, ti_9, ti_10, ti_11, ti_12, ti_19, ti_20, ti_21, ti_44, ti_45, ti_48, ti_57, ti_59, ti_60, ti_98, ti_99, ti_100, ti_101, ti_103, ti_108, ti_110, ti_114, ti_127] at c38
              refine ⟨fun c42 => ?_, fun c42 => ?_⟩
              · try simp only [Int32.lt_iff_toInt_lt, Int32.le_iff_toInt_le, ← Int32.toInt_inj, Int32.toInt_toInt64, ti_m14, ti_m13, ti_m12, ti_m11, ti_m10, ti_m9, ti_m6, ti_m5, ti_m4, ti_m3, ti_m2, ti_m1, ti_0, ti_1, ti_2, ti_3, ti_4, ti_5, ti_6, ti_7, ti_8, ti_9, ti_10, ti_11, ti_12, ti_19, ti_20, ti_21, ti_44, ti_45, ti_48, ti_57, ti_59, ti_60, ti_98, ti_99, ti_100, ti_101, ti_103, ti_108, ti_110, ti_114, ti_127] at c42
                unfold w_X8_tape_b48
                have hi74 : vp_in a1 6 := vp_of (by first | omega | ((try simp only [Int32.lt_iff_toInt_lt, Int32.le_iff_toInt_le, ← Int32.toInt_inj, Int32.toInt_toInt64, ti_m14, ti_m13, ti_m12, ti_m11, ti_m10, ti_m9, ti_m6, ti_m5, ti_m4, ti_m3, ti_m2, ti_m1, ti_0, ti_1, ti_2, ti_3, ti_4, ti_5, ti_6, ti_7, ti_8, ti_9, ti_10, ti_11, ti_12, ti_19, ti_20, ti_21, ti_44, ti_45, ti_48, ti_57, ti_59, ti_60, ti_98, ti_99, ti_100, ti_101, ti_103, ti_108, ti_110, ti_114, ti_127]); omega) | (split <;> omega)) (by first | omega | ((try simp only [Int32.lt_iff_toInt_lt, Int32.le_iff_toInt_le, ← Int32.toInt_inj, Int32.toInt_toInt64, ti_m14, ti_m13, ti_m12, ti_m11, ti_m10, ti_m9, ti_m6, ti_m5, ti_m4, ti_m3, ti_m2, ti_m1, ti_0, ti_1, ti_2, ti_3, ti_4, ti_5, ti_6, ti_7, ti_8, ti_9, ti_10, ti_11, ti_12, ti_19, ti_20, ti_21, ti_44, ti_45, ti_48, ti_57, ti_59, ti_60, ti_98, ti_99, ti_100, ti_101, ti_103, ti_108, ti_110, ti_114, ti_127]); omega) | (split <;> omega))
                refine ⟨hi74, ?_⟩
                have hz75 := vlt hi74
                refine ⟨fun c57 => ?_, fun c57 => ?_⟩
                · try simp only [Int32.lt_iff_toInt_lt, Int32.le_iff_toInt_le, ← Int32.toInt_inj, Int32.toInt_toInt64, ti_m14, ti_m13, ti_m12, ti_m11, ti_m10, ti_m9, ti_m6, ti_m5, ti_m4, ti_m3, ti_m2, ti_m1, ti_0, ti_1, ti_2, ti_3, ti_4, ti_5, ti_6, ti_7, ti_8, ti_9, ti_10, ti_11, ti_12, ti_19, ti_20, ti_21, ti_44, ti_45, ti_48, ti_57, ti_59, ti_60, ti_98, ti_99, ti_100, ti_101, ti_103, ti_108, ti_110, ti_114, ti_127] at c57
                  unfold w_X8_tape_b65
                  refine ⟨_, s_X6_renewAs ((rtp (vlt (hi74)))) (a2) (a3) hI (by first | omega | (constructor <;> first | omega | ((try simp only [Int32.lt_iff_toInt_lt, Int32.le_iff_toInt_le, ← Int32.toInt_inj, Int32.toInt_toInt64, ti_m14, ti_m13, ti_m12, ti_m11, ti_m10, ti_m9, ti_m6, ti_m5, ti_m4, ti_m3, ti_m2, ti_m1, ti_0, ti_1, ti_2, ti_3, ti_4, ti_5, ti_6, ti_7, ti_8, ti_9, ti_10, ti_11, ti_12, ti_19, ti_20, ti_21, ti_44, ti_45, ti_48, ti_57, ti_59, ti_60, ti_98, ti_99, ti_100, ti_101, ti_103, ti_108, ti_110, ti_114, ti_127]); omega))), ?_⟩
                  intro lg76 it77 hq
                  obtain ⟨hI78, hK79⟩ := hq
                  have hK80 : Kc (fun j => (473 ≤ j ∧ j < 486)) lg0 it0 lg76 it77 := kc_t hKr hK79 (fun j hj => by first | omega | exact False.elim hj | (dsimp only at hj ⊢; omega))
                  subst hp
                  exact ⟨hI78, hK80⟩
                · try simp only [Int32.lt_iff_toInt_lt, Int32.le_iff_toInt_le, ← Int32.toInt_inj, Int32.toInt_toInt64, ti_m14, ti_m13, ti_m12, ti_m11, ti_m10, ti_m9, ti_m6, ti_m5, ti_m4, ti_m3, ti_m2, ti_m1, ti_0, ti_1, ti_2, ti_3, ti_4, ti_5, ti_6, ti_7, ti_8, ti_9, ti_10, ti_11, ti_12, ti_19, ti_20, ti_21, ti_44, ti_45, ti_48, ti_57, ti_59, ti_60, ti_98, ti_99, ti_100, ti_101, ti_103, ti_108, ti_110, ti_114, ti_127] at c57
                  unfold w_X8_tape_b65
                  refine ⟨_, s_X6_renewAs ((rtp (vlt (hi74)))) (a2) ((0 : Int32)) hI (by first | omega | (constructor <;> first | omega | ((try simp only [Int32.lt_iff_toInt_lt, Int32.le_iff_toInt_le, ← Int32.toInt_inj, Int32.toInt_toInt64, ti_m14, ti_m13, ti_m12, ti_m11, ti_m10, ti_m9, ti_m6, ti_m5, ti_m4, ti_m3, ti_m2, ti_m1, ti_0, ti_1, ti_2, ti_3, ti_4, ti_5, ti_6, ti_7, ti_8, ti_9, ti_10, ti_11, ti_12, ti_19, ti_20, ti_21, ti_44, ti_45, ti_48, ti_57, ti_59, ti_60, ti_98, ti_99, ti_100, ti_101, ti_103, ti_108, ti_110, ti_114, ti_127]); omega))), ?_⟩
                  intro lg83 it84 hq
                  obtain ⟨hI85, hK86⟩ := hq
                  have hK87 : Kc (fun j => (473 ≤ j ∧ j < 486)) lg0 it0 lg83 it84 := kc_t hKr hK86 (fun j hj => by first | omega | exact False.elim hj | (dsimp only at hj ⊢; omega))
                  subst hp
                  exact ⟨hI85, hK87⟩
              · try simp only [Int32.lt_iff_toInt_lt, Int32.le_iff_toInt_le, ← Int32.toInt_inj, Int32.toInt_toInt64, ti_m14, ti_m13, ti_m12, ti_m11, ti_m10, ti_m9, ti_m6, ti_m5, ti_m4, ti_m3, ti_m2, ti_m1, ti_0, ti_1, ti_2, ti_3, ti_4, ti_5, ti_6, ti_7, ti_8, ti_9, ti_10, ti_11, ti_12, ti_19, ti_20, ti_21, ti_44, ti_45, ti_48, ti_57, ti_59, ti_60, ti_98, ti_99, ti_100, ti_101, ti_103, ti_108, ti_110, ti_114, ti_127] at c42
                subst hp
                exact ⟨hI, hKr⟩
          · try simp only [Int32.lt_iff_toInt_lt, Int32.le_iff_toInt_le, ← Int32.toInt_inj, Int32.toInt_toInt64, ti_m14, ti_m13, ti_m12, ti_m11, ti_m10, ti_m9, ti_m6, ti_m5, ti_m4, ti_m3, ti_m2, ti_m1, ti_0, ti_1, ti_2, ti_3, ti_4, ti_5, ti_6, ti_7, ti_8, ti_9, ti_10, ti_11, ti_12, ti_19, ti_20, ti_21, ti_44, ti_45, ti_48, ti_57, ti_59, ti_60, ti_98, ti_99, ti_100, ti_101, ti_103, ti_108, ti_110, ti_114, ti_127] at c30
            subst hp
            exact ⟨hI, hKr⟩
      · try simp only [Int32.lt_iff_toInt_lt, Int32.le_iff_toInt_le, ← Int32.toInt_inj, Int32.toInt_toInt64, ti_m14, ti_m13, ti_m12, ti_m11, ti_m10, ti_m9, ti_m6, ti_m5, ti_m4, ti_m3, ti_m2, ti_m1, ti_0, ti_1, ti_2, ti_3, ti_4, ti_5, ti_6, ti_7, ti_8, ti_9, ti_10, ti_11, ti_12, ti_19, ti_20, ti_21, ti_44, ti_45, ti_48, ti_57, ti_59, ti_60, ti_98, ti_99, ti_100, ti_101, ti_103, ti_108, ti_110, ti_114, ti_127] at c16
        subst hp
        exact ⟨hI, hKr⟩
  · try simp only [Int32.lt_iff_toInt_lt, Int32.le_iff_toInt_le, ← Int32.toInt_inj, Int32.toInt_toInt64, ti_m14, ti_m13, ti_m12, ti_m11, ti_m10, ti_m9, ti_m6, ti_m5, ti_m4, ti_m3, ti_m2, ti_m1, ti_0, ti_1, ti_2, ti_3, ti_4, ti_5, ti_6, ti_7, ti_8, ti_9, ti_10, ti_11, ti_12, ti_19, ti_20, ti_21, ti_44, ti_45, ti_48, ti_57, ti_59, ti_60, ti_98, ti_99, ti_100, ti_101, ti_103, ti_108, ti_110, ti_114, ti_127] at c4
    subst hp
    exact ⟨hI, hKr⟩
set_option maxRecDepth 100000 in
theorem s_X8_item (a1 : Int32) (a2 : Int32) (a3 : Int64) {lg0 : LGt} {it0 : ITt} (hI : I8 lg0 it0) : w_X8_item a1 a2 a3 (fun (v : Int32) (lg' : LGt) (it' : ITt) => (I8 lg' it' ∧ Kc (fun j => (473 ≤ j ∧ j < 486)) lg0 it0 lg' it'))  lg0 it0 := by
  have hb_a1 := And.intro a1.le_toInt a1.toInt_lt
  have hb_a2 := And.intro a2.le_toInt a2.toInt_lt
  have hKr : Kc (fun j => (473 ≤ j ∧ j < 486)) lg0 it0 lg0 it0 := kc_r
  generalize hp : (fun (v : Int32) (lg' : LGt) (it' : ITt) => (I8 lg' it' ∧ Kc (fun j => (473 ≤ j ∧ j < 486)) lg0 it0 lg' it')) = Pz
  unfold w_X8_item
  refine ⟨fun c4 => ?_, fun c4 => ?_⟩
  · try simp only [Int32.lt_iff_toInt_lt, Int32.le_iff_toInt_le, ← Int32.toInt_inj, Int32.toInt_toInt64, ti_m14, ti_m13, ti_m12, ti_m11, ti_m10, ti_m9, ti_m6, ti_m5, ti_m4, ti_m3, ti_m2, ti_m1, ti_0, ti_1, ti_2, ti_3, ti_4, ti_5, ti_6, ti_7, ti_8, ti_9, ti_10, ti_11, ti_12, ti_19, ti_20, ti_21, ti_44, ti_45, ti_48, ti_57, ti_59, ti_60, ti_98, ti_99, ti_100, ti_101, ti_103, ti_108, ti_110, ti_114, ti_127] at c4
    have hi21 : vp_in a1 6 := vp_of (by first | omega | ((try simp only [Int32.lt_iff_toInt_lt, Int32.le_iff_toInt_le, ← Int32.toInt_inj, Int32.toInt_toInt64, ti_m14, ti_m13, ti_m12, ti_m11, ti_m10, ti_m9, ti_m6, ti_m5, ti_m4, ti_m3, ti_m2, ti_m1, ti_0, ti_1, ti_2, ti_3, ti_4, ti_5, ti_6, ti_7, ti_8, ti_9, ti_10, ti_11, ti_12, ti_19, ti_20, ti_21, ti_44, ti_45, ti_48, ti_57, ti_59, ti_60, ti_98, ti_99, ti_100, ti_101, ti_103, ti_108, ti_110, ti_114, ti_127]); omega) | (split <;> omega)) (by first | omega | ((try simp only [Int32.lt_iff_toInt_lt, Int32.le_iff_toInt_le, ← Int32.toInt_inj, Int32.toInt_toInt64, ti_m14, ti_m13, ti_m12, ti_m11, ti_m10, ti_m9, ti_m6, ti_m5, ti_m4, ti_m3, ti_m2, ti_m1, ti_0, ti_1, ti_2, ti_3, ti_4, ti_5, ti_6, ti_7, ti_8, ti_9, ti_10, ti_11, ti_12, ti_19, ti_20, ti_21, ti_44, ti_45, ti_48, ti_57, ti_59, ti_60, ti_98, ti_99, ti_100, ti_101, ti_103, ti_108, ti_110, ti_114, ti_127]); omega) | (split <;> omega))
    refine ⟨hi21, ?_⟩
    have hz22 := vlt hi21
    refine ⟨fun c23 => ?_, fun c23 => ?_⟩
    · try simp only [Int32.lt_iff_toInt_lt, Int32.le_iff_toInt_le, ← Int32.toInt_inj, Int32.toInt_toInt64, ti_m14, ti_m13, ti_m12, ti_m11, ti_m10, ti_m9, ti_m6, ti_m5, ti_m4, ti_m3, ti_m2, ti_m1, ti_0, ti_1, ti_2, ti_3, ti_4, ti_5, ti_6, ti_7, ti_8, ti_9, ti_10, ti_11, ti_12, ti_19, ti_20, ti_21, ti_44, ti_45, ti_48, ti_57, ti_59, ti_60, ti_98, ti_99, ti_100, ti_101, ti_103, ti_108, ti_110, ti_114, ti_127] at c23
      refine ⟨fun c30 => ?_, fun c30 => ?_⟩
      · try simp only [Int32.lt_iff_toInt_lt, Int32.le_iff_toInt_le, ← Int32.toInt_inj, Int32.toInt_toInt64, ti_m14, ti_m13, ti_m12, ti_m11, ti_m10, ti_m9, ti_m6, ti_m5, ti_m4, ti_m3, ti_m2, ti_m1, ti_0, ti_1, ti_2, ti_3, ti_4, ti_5, ti_6, ti_7, ti_8, ti_9, ti_10, ti_11, ti_12, ti_19, ti_20, ti_21, ti_44, ti_45, ti_48, ti_57, ti_59, ti_60, ti_98, ti_99, ti_100, ti_101, ti_103, ti_108, ti_110, ti_114, ti_127] at c30
        subst hp
        exact ⟨hI, hKr⟩
      · try simp only [Int32.lt_iff_toInt_lt, Int32.le_iff_toInt_le, ← Int32.toInt_inj, Int32.toInt_toInt64, ti_m14, ti_m13, ti_m12, ti_m11, ti_m10, ti_m9, ti_m6, ti_m5, ti_m4, ti_m3, ti_m2, ti_m1, ti_0, ti_1, ti_2, ti_3, ti_4, ti_5, ti_6, ti_7, ti_8, ti_9, ti_10, ti_11, ti_12, ti_19, ti_20, ti_21, ti_44, ti_45, ti_48, ti_57, ti_59, ti_60, ti_98, ti_99, ti_100, ti_101, ti_103, ti_108, ti_110, ti_114, ti_127] at c30
        have f23 : 0 ≤ (it0 (474 + 2 * a1.toNatClampNeg) 1).toInt ∧ (it0 (474 + 2 * a1.toNatClampNeg) 1).toInt ≤ 60 := i8_6 hI (obt (rtp (vlt (hi21))))
        refine ⟨fun c39 => ?_, fun c39 => ?_⟩
        · try simp only [Int32.lt_iff_toInt_lt, Int32.le_iff_toInt_le, ← Int32.toInt_inj, Int32.toInt_toInt64, ti_m14, ti_m13, ti_m12, ti_m11, ti_m10, ti_m9, ti_m6, ti_m5, ti_m4, ti_m3, ti_m2, ti_m1, ti_0, ti_1, ti_2, ti_3, ti_4, ti_5, ti_6, ti_7, ti_8, ti_9, ti_10, ti_11, ti_12, ti_19, ti_20, ti_21, ti_44, ti_45, ti_48, ti_57, ti_59, ti_60, ti_98, ti_99, ti_100, ti_101, ti_103, ti_108, ti_110, ti_114, ti_127] at c39
          refine ⟨_, s_X6_cut ((rtp (vlt (hi21)))) (a3) hI , ?_⟩
          intro v29 lg24 it25 hq
          obtain ⟨hI26, hK27⟩ := hq
          have hK28 : Kc (fun j => (473 ≤ j ∧ j < 486)) lg0 it0 lg24 it25 := kc_t hKr hK27 (fun j hj => by first | omega | exact False.elim hj | (dsimp only at hj ⊢; omega))
          try have e31 : (it25 (474 + 2 * a1.toNatClampNeg) 0).toInt = (it0 (474 + 2 * a1.toNatClampNeg) 0).toInt := congrArg (fun f => Int32.toInt (f 0)) (hK27 (474 + 2 * a1.toNatClampNeg) (by first | omega | (dsimp only; omega))).2
          try have e32 : (it25 (474 + 2 * a1.toNatClampNeg) 1).toInt = (it0 (474 + 2 * a1.toNatClampNeg) 1).toInt := congrArg (fun f => Int32.toInt (f 1)) (hK27 (474 + 2 * a1.toNatClampNeg) (by first | omega | (dsimp only; omega))).2
          have hi33 : vp_in a2 60 := vp_of (by first | omega | ((try simp only [Int32.lt_iff_toInt_lt, Int32.le_iff_toInt_le, ← Int32.toInt_inj, Int32.toInt_toInt64, ti_m14, ti_m13, ti_m12, ti_m11, ti_m10, ti_m9, ti_m6, ti_m5, ti_m4, ti_m3, ti_m2, ti_m1, ti_0, ti_1, ti_2, ti_3, ti_4, ti_5, ti_6, ti_7, ti_8, ti_9, ti_10, ti_11, ti_12, ti_19, ti_20, ti_21, ti_44, ti_45, ti_48, ti_57, ti_59, ti_60, ti_98, ti_99, ti_100, ti_101, ti_103, ti_108, ti_110, ti_114, ti_127]); omega) | (split <;> omega)) (by first | omega | ((try simp only [Int32.lt_iff_toInt_lt, Int32.le_iff_toInt_le, ← Int32.toInt_inj, Int32.toInt_toInt64, ti_m14, ti_m13, ti_m12, ti_m11, ti_m10, ti_m9, ti_m6, ti_m5, ti_m4, ti_m3, ti_m2, ti_m1, ti_0, ti_1, ti_2, ti_3, ti_4, ti_5, ti_6, ti_7, ti_8, ti_9, ti_10, ti_11, ti_12, ti_19, ti_20, ti_21, ti_44, ti_45, ti_48, ti_57, ti_59, ti_60, ti_98, ti_99, ti_100, ti_101, ti_103, ti_108, ti_110, ti_114, ti_127]); omega) | (split <;> omega))
          refine ⟨hi33, ?_⟩
          have hz34 := vlt hi33
          intro lg35 em36
          have hI37 : I8 lg35 it25 := hI26
          have hK38 : Kc (fun j => (473 ≤ j ∧ j < 486)) lg0 it0 lg35 it25 := by rw [em36]; exact kc_l (by first | omega | (dsimp only; omega)) hK28
          subst hp
          exact ⟨hI37, hK38⟩
        · try simp only [Int32.lt_iff_toInt_lt, Int32.le_iff_toInt_le, ← Int32.toInt_inj, Int32.toInt_toInt64, ti_m14, ti_m13, ti_m12, ti_m11, ti_m10, ti_m9, ti_m6, ti_m5, ti_m4, ti_m3, ti_m2, ti_m1, ti_0, ti_1, ti_2, ti_3, ti_4, ti_5, ti_6, ti_7, ti_8, ti_9, ti_10, ti_11, ti_12, ti_19, ti_20, ti_21, ti_44, ti_45, ti_48, ti_57, ti_59, ti_60, ti_98, ti_99, ti_100, ti_101, ti_103, ti_108, ti_110, ti_114, ti_127] at c39
          subst hp
          exact ⟨hI, hKr⟩
    · try simp only [Int32.lt_iff_toInt_lt, Int32.le_iff_toInt_le, ← Int32.toInt_inj, Int32.toInt_toInt64, ti_m14, ti_m13, ti_m12, ti_m11, ti_m10, ti_m9, ti_m6, ti_m5, ti_m4, ti_m3, ti_m2, ti_m1, ti_0, ti_1, ti_2, ti_3, ti_4, ti_5, ti_6, ti_7, ti_8, ti_9, ti_10, ti_11, ti_12, ti_19, ti_20, ti_21, ti_44, ti_45, ti_48, ti_57, ti_59, ti_60, ti_98, ti_99, ti_100, ti_101, ti_103, ti_108, ti_110, ti_114, ti_127] at c23
      subst hp
      exact ⟨hI, hKr⟩
  · try simp only [Int32.lt_iff_toInt_lt, Int32.le_iff_toInt_le, ← Int32.toInt_inj, Int32.toInt_toInt64, ti_m14, ti_m13, ti_m12, ti_m11, ti_m10, ti_m9, ti_m6, ti_m5, ti_m4, ti_m3, ti_m2, ti_m1, ti_0, ti_1, ti_2, ti_3, ti_4, ti_5, ti_6, ti_7, ti_8, ti_9, ti_10, ti_11, ti_12, ti_19, ti_20, ti_21, ti_44, ti_45, ti_48, ti_57, ti_59, ti_60, ti_98, ti_99, ti_100, ti_101, ti_103, ti_108, ti_110, ti_114, ti_127] at c4
    subst hp
    exact ⟨hI, hKr⟩
set_option maxRecDepth 100000 in
theorem s_X8_peek (a1 : Int32) (a2 : Int32) {lg0 : LGt} {it0 : ITt} (hI : I8 lg0 it0) : w_X8_peek a1 a2 (fun (v : Int64) (lg' : LGt) (it' : ITt) => (I8 lg' it' ∧ Kc (fun j => False) lg0 it0 lg' it'))  lg0 it0 := by
  have hb_a1 := And.intro a1.le_toInt a1.toInt_lt
  have hb_a2 := And.intro a2.le_toInt a2.toInt_lt
  have hKr : Kc (fun j => False) lg0 it0 lg0 it0 := kc_r
  generalize hp : (fun (v : Int64) (lg' : LGt) (it' : ITt) => (I8 lg' it' ∧ Kc (fun j => False) lg0 it0 lg' it')) = Pz
  unfold w_X8_peek
  refine ⟨fun c4 => ?_, fun c4 => ?_⟩
  · try simp only [Int32.lt_iff_toInt_lt, Int32.le_iff_toInt_le, ← Int32.toInt_inj, Int32.toInt_toInt64, ti_m14, ti_m13, ti_m12, ti_m11, ti_m10, ti_m9, ti_m6, ti_m5, ti_m4, ti_m3, ti_m2, ti_m1, ti_0, ti_1, ti_2, ti_3, ti_4, ti_5, ti_6, ti_7, ti_8, ti_9, ti_10, ti_11, ti_12, ti_19, ti_20, ti_21, ti_44, ti_45, ti_48, ti_57, ti_59, ti_60, ti_98, ti_99, ti_100, ti_101, ti_103, ti_108, ti_110, ti_114, ti_127] at c4
    subst hp
    exact ⟨hI, hKr⟩
  · try simp only [Int32.lt_iff_toInt_lt, Int32.le_iff_toInt_le, ← Int32.toInt_inj, Int32.toInt_toInt64, ti_m14, ti_m13, ti_m12, ti_m11, ti_m10, ti_m9, ti_m6, ti_m5, ti_m4, ti_m3, ti_m2, ti_m1, ti_0, ti_1, ti_2, ti_3, ti_4, ti_5, ti_6, ti_7, ti_8, ti_9, ti_10, ti_11, ti_12, ti_19, ti_20, ti_21, ti_44, ti_45, ti_48, ti_57, ti_59, ti_60, ti_98, ti_99, ti_100, ti_101, ti_103, ti_108, ti_110, ti_114, ti_127] at c4
    refine ⟨fun c8 => ?_, fun c8 => ?_⟩
    · try simp only [Int32.lt_iff_toInt_lt, Int32.le_iff_toInt_le, ← Int32.toInt_inj, Int32.toInt_toInt64, ti_m14, ti_m13, ti_m12, ti_m11, ti_m10, ti_m9, ti_m6, ti_m5, ti_m4, ti_m3, ti_m2, ti_m1, ti_0, ti_1, ti_2, ti_3, ti_4, ti_5, ti_6, ti_7, ti_8, ti_9, ti_10, ti_11, ti_12, ti_19, ti_20, ti_21, ti_44, ti_45, ti_48, ti_57, ti_59, ti_60, ti_98, ti_99, ti_100, ti_101, ti_103, ti_108, ti_110, ti_114, ti_127] at c8
      subst hp
      exact ⟨hI, hKr⟩
    · try simp only [Int32.lt_iff_toInt_lt, Int32.le_iff_toInt_le, ← Int32.toInt_inj, Int32.toInt_toInt64, ti_m14, ti_m13, ti_m12, ti_m11, ti_m10, ti_m9, ti_m6, ti_m5, ti_m4, ti_m3, ti_m2, ti_m1, ti_0, ti_1, ti_2, ti_3, ti_4, ti_5, ti_6, ti_7, ti_8, ti_9, ti_10, ti_11, ti_12, ti_19, ti_20, ti_21, ti_44, ti_45, ti_48, ti_57, ti_59, ti_60, ti_98, ti_99, ti_100, ti_101, ti_103, ti_108, ti_110, ti_114, ti_127] at c8
      have hi13 : vp_in a1 6 := vp_of (by first | omega | ((try simp only [Int32.lt_iff_toInt_lt, Int32.le_iff_toInt_le, ← Int32.toInt_inj, Int32.toInt_toInt64, ti_m14, ti_m13, ti_m12, ti_m11, ti_m10, ti_m9, ti_m6, ti_m5, ti_m4, ti_m3, ti_m2, ti_m1, ti_0, ti_1, ti_2, ti_3, ti_4, ti_5, ti_6, ti_7, ti_8, ti_9, ti_10, ti_11, ti_12, ti_19, ti_20, ti_21, ti_44, ti_45, ti_48, ti_57, ti_59, ti_60, ti_98, ti_99, ti_100, ti_101, ti_103, ti_108, ti_110, ti_114, ti_127]); omega) | (split <;> omega)) (by first | omega | ((try simp only [Int32.lt_iff_toInt_lt, Int32.le_iff_toInt_le, ← Int32.toInt_inj, Int32.toInt_toInt64, ti_m14, ti_m13, ti_m12, ti_m11, ti_m10, ti_m9, ti_m6, ti_m5, ti_m4, ti_m3, ti_m2, ti_m1, ti_0, ti_1, ti_2, ti_3, ti_4, ti_5, ti_6, ti_7, ti_8, ti_9, ti_10, ti_11, ti_12, ti_19, ti_20, ti_21, ti_44, ti_45, ti_48, ti_57, ti_59, ti_60, ti_98, ti_99, ti_100, ti_101, ti_103, ti_108, ti_110, ti_114, ti_127]); omega) | (split <;> omega))
      refine ⟨hi13, ?_⟩
      have hz14 := vlt hi13
      have f15 : 0 ≤ (it0 (474 + 2 * a1.toNatClampNeg) 1).toInt ∧ (it0 (474 + 2 * a1.toNatClampNeg) 1).toInt ≤ 60 := i8_6 hI (obt (rtp (vlt (hi13))))
      refine ⟨fun c21 => ?_, fun c21 => ?_⟩
      · try simp only [Int32.lt_iff_toInt_lt, Int32.le_iff_toInt_le, ← Int32.toInt_inj, Int32.toInt_toInt64, ti_m14, ti_m13, ti_m12, ti_m11, ti_m10, ti_m9, ti_m6, ti_m5, ti_m4, ti_m3, ti_m2, ti_m1, ti_0, ti_1, ti_2, ti_3, ti_4, ti_5, ti_6, ti_7, ti_8, ti_9, ti_10, ti_11, ti_12, ti_19, ti_20, ti_21, ti_44, ti_45, ti_48, ti_57, ti_59, ti_60, ti_98, ti_99, ti_100, ti_101, ti_103, ti_108, ti_110, ti_114, ti_127] at c21
        have hi16 : vp_in a1 6 := vp_of (by first | omega | ((try simp only [Int32.lt_iff_toInt_lt, Int32.le_iff_toInt_le, ← Int32.toInt_inj, Int32.toInt_toInt64, ti_m14, ti_m13, ti_m12, ti_m11, ti_m10, ti_m9, ti_m6, ti_m5, ti_m4, ti_m3, ti_m2, ti_m1, ti_0, ti_1, ti_2, ti_3, ti_4, ti_5, ti_6, ti_7, ti_8, ti_9, ti_10, ti_11, ti_12, ti_19, ti_20, ti_21, ti_44, ti_45, ti_48, ti_57, ti_59, ti_60, ti_98, ti_99, ti_100, ti_101, ti_103, ti_108, ti_110, ti_114, ti_127]); omega) | (split <;> omega)) (by first | omega | ((try simp only [Int32.lt_iff_toInt_lt, Int32.le_iff_toInt_le, ← Int32.toInt_inj, Int32.toInt_toInt64, ti_m14, ti_m13, ti_m12, ti_m11, ti_m10, ti_m9, ti_m6, ti_m5, ti_m4, ti_m3, ti_m2, ti_m1, ti_0, ti_1, ti_2, ti_3, ti_4, ti_5, ti_6, ti_7, ti_8, ti_9, ti_10, ti_11, ti_12, ti_19, ti_20, ti_21, ti_44, ti_45, ti_48, ti_57, ti_59, ti_60, ti_98, ti_99, ti_100, ti_101, ti_103, ti_108, ti_110, ti_114, ti_127]); omega) | (split <;> omega))
        refine ⟨hi16, ?_⟩
        have hz17 := vlt hi16
        have hi18 : vp_in a2 60 := vp_of (by first | omega | ((try simp only [Int32.lt_iff_toInt_lt, Int32.le_iff_toInt_le, ← Int32.toInt_inj, Int32.toInt_toInt64, ti_m14, ti_m13, ti_m12, ti_m11, ti_m10, ti_m9, ti_m6, ti_m5, ti_m4, ti_m3, ti_m2, ti_m1, ti_0, ti_1, ti_2, ti_3, ti_4, ti_5, ti_6, ti_7, ti_8, ti_9, ti_10, ti_11, ti_12, ti_19, ti_20, ti_21, ti_44, ti_45, ti_48, ti_57, ti_59, ti_60, ti_98, ti_99, ti_100, ti_101, ti_103, ti_108, ti_110, ti_114, ti_127]); omega) | (split <;> omega)) (by first | omega | ((try simp only [Int32.lt_iff_toInt_lt, Int32.le_iff_toInt_le, ← Int32.toInt_inj, Int32.toInt_toInt64, ti_m14, ti_m13, ti_m12, ti_m11, ti_m10, ti_m9, ti_m6, ti_m5, ti_m4, ti_m3, ti_m2, ti_m1, ti_0, ti_1, ti_2, ti_3, ti_4, ti_5, ti_6, ti_7, ti_8, ti_9, ti_10, ti_11, ti_12, ti_19, ti_20, ti_21, ti_44, ti_45, ti_48, ti_57, ti_59, ti_60, ti_98, ti_99, ti_100, ti_101, ti_103, ti_108, ti_110, ti_114, ti_127]); omega) | (split <;> omega))
        refine ⟨hi18, ?_⟩
        have hz19 := vlt hi18
        subst hp
        exact ⟨hI, hKr⟩
      · try simp only [Int32.lt_iff_toInt_lt, Int32.le_iff_toInt_le, ← Int32.toInt_inj, Int32.toInt_toInt64, ti_m14, ti_m13, ti_m12, ti_m11, ti_m10, ti_m9, ti_m6, ti_m5, ti_m4, ti_m3, ti_m2, ti_m1, ti_0, ti_1, ti_2, ti_3, ti_4, ti_5, ti_6, ti_7, ti_8, ti_9, ti_10, ti_11, ti_12, ti_19, ti_20, ti_21, ti_44, ti_45, ti_48, ti_57, ti_59, ti_60, ti_98, ti_99, ti_100, ti_101, ti_103, ti_108, ti_110, ti_114, ti_127] at c21
        subst hp
        exact ⟨hI, hKr⟩
set_option maxRecDepth 100000 in
theorem s_X8_shift (a1 : Int32) (a2 : Int32) (a3 : Int32) (a4 : Int32) (a5 : Int32) {lg0 : LGt} {it0 : ITt} (hI : I8 lg0 it0) : w_X8_shift a1 a2 a3 a4 a5 (fun (v : Int32) (lg' : LGt) (it' : ITt) => (I8 lg' it' ∧ Kc (fun j => (473 ≤ j ∧ j < 486)) lg0 it0 lg' it'))  lg0 it0 := by
  have hb_a1 := And.intro a1.le_toInt a1.toInt_lt
  have hb_a2 := And.intro a2.le_toInt a2.toInt_lt
  have hb_a3 := And.intro a3.le_toInt a3.toInt_lt
  have hb_a4 := And.intro a4.le_toInt a4.toInt_lt
  have hb_a5 := And.intro a5.le_toInt a5.toInt_lt
  have hKr : Kc (fun j => (473 ≤ j ∧ j < 486)) lg0 it0 lg0 it0 := kc_r
  generalize hp : (fun (v : Int32) (lg' : LGt) (it' : ITt) => (I8 lg' it' ∧ Kc (fun j => (473 ≤ j ∧ j < 486)) lg0 it0 lg' it')) = Pz
  unfold w_X8_shift
  refine ⟨fun c4 => ?_, fun c4 => ?_⟩
  · try simp only [Int32.lt_iff_toInt_lt, Int32.le_iff_toInt_le, ← Int32.toInt_inj, Int32.toInt_toInt64, ti_m14, ti_m13, ti_m12, ti_m11, ti_m10, ti_m9, ti_m6, ti_m5, ti_m4, ti_m3, ti_m2, ti_m1, ti_0, ti_1, ti_2, ti_3, ti_4, ti_5, ti_6, ti_7, ti_8, ti_9, ti_10, ti_11, ti_12, ti_19, ti_20, ti_21, ti_44, ti_45, ti_48, ti_57, ti_59, ti_60, ti_98, ti_99, ti_100, ti_101, ti_103, ti_108, ti_110, ti_114, ti_127] at c4
    subst hp
    exact ⟨hI, hKr⟩
  · try simp only [Int32.lt_iff_toInt_lt, Int32.le_iff_toInt_le, ← Int32.toInt_inj, Int32.toInt_toInt64, ti_m14, ti_m13, ti_m12, ti_m11, ti_m10, ti_m9, ti_m6, ti_m5, ti_m4, ti_m3, ti_m2, ti_m1, ti_0, ti_1, ti_2, ti_3, ti_4, ti_5, ti_6, ti_7, ti_8, ti_9, ti_10, ti_11, ti_12, ti_19, ti_20, ti_21, ti_44, ti_45, ti_48, ti_57, ti_59, ti_60, ti_98, ti_99, ti_100, ti_101, ti_103, ti_108, ti_110, ti_114, ti_127] at c4
    refine ⟨fun c11 => ?_, fun c11 => ?_⟩
    · try simp only [Int32.lt_iff_toInt_lt, Int32.le_iff_toInt_le, ← Int32.toInt_inj, Int32.toInt_toInt64, ti_m14, ti_m13, ti_m12, ti_m11, ti_m10, ti_m9, ti_m6, ti_m5, ti_m4, ti_m3, ti_m2, ti_m1, ti_0, ti_1, ti_2, ti_3, ti_4, ti_5, ti_6, ti_7, ti_8, ti_9, ti_10, ti_11, ti_12, ti_19, ti_20, ti_21, ti_44, ti_45, ti_48, ti_57, ti_59, ti_60, ti_98, ti_99, ti_100, ti_101, ti_103, ti_108, ti_110, ti_114, ti_127] at c11
      have hi29 : vp_in a1 6 := vp_of (by first | omega | ((try simp only [Int32.lt_iff_toInt_lt, Int32.le_iff_toInt_le, ← Int32.toInt_inj, Int32.toInt_toInt64, ti_m14, ti_m13, ti_m12, ti_m11, ti_m10, ti_m9, ti_m6, ti_m5, ti_m4, ti_m3, ti_m2, ti_m1, ti_0, ti_1, ti_2, ti_3, ti_4, ti_5, ti_6, ti_7, ti_8, ti_9, ti_10, ti_11, ti_12, ti_19, ti_20, ti_21, ti_44, ti_45, ti_48, ti_57, ti_59, ti_60, ti_98, ti_99, ti_100, ti_101, ti_103, ti_108, ti_110, ti_114, ti_127]); omega) | (split <;> omega)) (by first | omega | ((try simp only [Int32.lt_iff_toInt_lt, Int32.le_iff_toInt_le, ← Int32.toInt_inj, Int32.toInt_toInt64, ti_m14, ti_m13, ti_m12, ti_m11, ti_m10, ti_m9, ti_m6, ti_m5, ti_m4, ti_m3, ti_m2, ti_m1, ti_0, ti_1, ti_2, ti_3, ti_4, ti_5, ti_6, ti_7, ti_8, ti_9, ti_10, ti_11, ti_12, ti_19, ti_20, ti_21, ti_44, ti_45, ti_48, ti_57, ti_59, ti_60, ti_98, ti_99, ti_100, ti_101, ti_103, ti_108, ti_110, ti_114, ti_127]); omega) | (split <;> omega))
      refine ⟨hi29, ?_⟩
      have hz30 := vlt hi29
      have hi31 : vp_in a3 6 := vp_of (by first | omega | ((try simp only [Int32.lt_iff_toInt_lt, Int32.le_iff_toInt_le, ← Int32.toInt_inj, Int32.toInt_toInt64, ti_m14, ti_m13, ti_m12, ti_m11, ti_m10, ti_m9, ti_m6, ti_m5, ti_m4, ti_m3, ti_m2, ti_m1, ti_0, ti_1, ti_2, ti_3, ti_4, ti_5, ti_6, ti_7, ti_8, ti_9, ti_10, ti_11, ti_12, ti_19, ti_20, ti_21, ti_44, ti_45, ti_48, ti_57, ti_59, ti_60, ti_98, ti_99, ti_100, ti_101, ti_103, ti_108, ti_110, ti_114, ti_127]); omega) | (split <;> omega)) (by first | omega | ((try simp only [Int32.lt_iff_toInt_lt, Int32.le_iff_toInt_le, ← Int32.toInt_inj, Int32.toInt_toInt64, ti_m14, ti_m13, ti_m12, ti_m11, ti_m10, ti_m9, ti_m6, ti_m5, ti_m4, ti_m3, ti_m2, ti_m1, ti_0, ti_1, ti_2, ti_3, ti_4, ti_5, ti_6, ti_7, ti_8, ti_9, ti_10, ti_11, ti_12, ti_19, ti_20, ti_21, ti_44, ti_45, ti_48, ti_57, ti_59, ti_60, ti_98, ti_99, ti_100, ti_101, ti_103, ti_108, ti_110, ti_114, ti_127]); omega) | (split <;> omega))
      refine ⟨hi31, ?_⟩
      have hz32 := vlt hi31
      refine ⟨fun c38 => ?_, fun c38 => ?_⟩
      · try simp only [Int32.lt_iff_toInt_lt, Int32.le_iff_toInt_le, ← Int32.toInt_inj, Int32.toInt_toInt64, ti_m14, ti_m13, ti_m12, ti_m11, ti_m10, ti_m9, ti_m6, ti_m5, ti_m4, ti_m3, ti_m2, ti_m1, ti_0, ti_1, ti_2, ti_3, ti_4, ti_5, ti_6, ti_7, ti_8, ti_9, ti_10, ti_11, ti_12, ti_19, ti_20, ti_21, ti_44, ti_45, ti_48, ti_57, ti_59, ti_60, ti_98, ti_99, ti_100, ti_101, ti_103, ti_108, ti_110, ti_114, ti_127] at c38
        subst hp
        exact ⟨hI, hKr⟩
      · try simp only [Int32.lt_iff_toInt_lt, Int32.le_iff_toInt_le, ← Int32.toInt_inj, Int32.toInt_toInt64, ti_m14, ti_m13, ti_m12, ti_m11, ti_m10, ti_m9, ti_m6, ti_m5, ti_m4, ti_m3, ti_m2, ti_m1, ti_0, ti_1, ti_2, ti_3, ti_4, ti_5, ti_6, ti_7, ti_8, ti_9, ti_10, ti_11, ti_12, ti_19, ti_20, ti_21, ti_44, ti_45, ti_48, ti_57, ti_59, ti_60, ti_98, ti_99, ti_100, ti_101, ti_103, ti_108, ti_110, ti_114, ti_127] at c38
        refine ⟨fun c47 => ?_, fun c47 => ?_⟩
        · try simp only [Int32.lt_iff_toInt_lt, Int32.le_iff_toInt_le, ← Int32.toInt_inj, Int32.toInt_toInt64, ti_m14, ti_m13, ti_m12, ti_m11, ti_m10, ti_m9, ti_m6, ti_m5, ti_m4, ti_m3, ti_m2, ti_m1, ti_0, ti_1, ti_2, ti_3, ti_4, ti_5, ti_6, ti_7, ti_8, ti_9, ti_10, ti_11, ti_12, ti_19, ti_20, ti_21, ti_44, ti_45, ti_48, ti_57, ti_59, ti_60, ti_98, ti_99, ti_100, ti_101, ti_103, ti_108, ti_110, ti_114, ti_127] at c47
          refine ⟨fun c63 => ?_, fun c63 => ?_⟩
          · try simp only [Int32.lt_iff_toInt_lt, Int32.le_iff_toInt_le, ← Int32.toInt_inj, Int32.toInt_toInt64, ti_m14, ti_m13, ti_m12, ti_m11, ti_m10, ti_m9, ti_m6, ti_m5, ti_m4, ti_m3, ti_m2, ti_m1, ti_0, ti_1, ti_2, ti_3, ti_4, ti_5, ti_6, ti_7, ti_8, ti_9, ti_10, ti_11, ti_12, ti_19, ti_20, ti_21, ti_44, ti_45, ti_48, ti_57, ti_59, ti_60, ti_98, ti_99, ti_100, ti_101, ti_103, ti_108, ti_110, ti_114, ti_127] at c63
            refine ⟨fun c71 => ?_, fun c71 => ?_⟩
            · try simp only [Int32.lt_iff_toInt_lt, Int32.le_iff_toInt_le, ← Int32.toInt_inj, Int32.toInt_toInt64, ti_m14, ti_m13, ti_m12, ti_m11, ti_m10, ti_m9, ti_m6, ti_m5, ti_m4, ti_m3, ti_m2, ti_m1, ti_0, ti_1, ti_2, ti_3, ti_4, ti_5, ti_6, ti_7, ti_8, ti_9, ti_10, ti_11, ti_12, ti_19, ti_20, ti_21, ti_44, ti_45, ti_48, ti_57, ti_59, ti_60, ti_98, ti_99, ti_100, ti_101, ti_103, ti_108, ti_110, ti_114, ti_127] at c71
              subst hp
              exact ⟨hI, hKr⟩
            · try simp only [Int32.lt_iff_toInt_lt, Int32.le_iff_toInt_le, ← Int32.toInt_inj, Int32.toInt_toInt64, ti_m14, ti_m13, ti_m12, ti_m11, ti_m10, ti_m9, ti_m6, ti_m5, ti_m4, ti_m3, ti_m2, ti_m1, ti_0, ti_1, ti_2, ti_3, ti_4, ti_5, ti_6, ti_7, ti_8, ti_9, ti_10, ti_11, ti_12, ti_19, ti_20, ti_21, ti_44, ti_45, ti_48, ti_57, ti_59, ti_60, ti_98, ti_99, ti_100, ti_101, ti_103, ti_108, ti_110, ti_114, ti_127] at c71
              refine ⟨fun c75 => ?_, fun c75 => ?_⟩
              · try simp only [Int32.lt_iff_toInt_lt, Int32.le_iff_toInt_le, ← Int32.toInt_inj, Int32.toInt_toInt64, ti_m14, ti_m13, ti_m12, ti_m11, ti_m10, ti_m9, ti_m6, ti_m5, ti_m4, ti_m3, ti_m2, ti_m1, ti_0, ti_1, ti_2, ti_3, ti_4, ti_5, ti_6, ti_7, ti_8, ti_9, ti_10, ti_11, ti_12, ti_19, ti_20, ti_21, ti_44, ti_45, ti_48, ti_57, ti_59, ti_60, ti_98, ti_99, ti_100, ti_101, ti_103, ti_108, ti_110, ti_114, ti_127] at c75
                subst hp
                exact ⟨hI, hKr⟩
              · try simp only [Int32.lt_iff_toInt_lt, Int32.le_iff_toInt_le, ← Int32.toInt_inj, Int32.toInt_toInt64, ti_m14, ti_m13, ti_m12, ti_m11, ti_m10, ti_m9, ti_m6, ti_m5, ti_m4, ti_m3, ti_m2, ti_m1, ti_0, ti_1, ti_2, ti_3, ti_4, ti_5, ti_6, ti_7, ti_8, ti_9, ti_10, ti_11, ti_12, ti_19, ti_20, ti_21, ti_44, ti_45, ti_48, ti_57, ti_59, ti_60, ti_98, ti_99, ti_100, ti_101, ti_103, ti_108, ti_110, ti_114, ti_127] at c75
                refine ⟨fun c80 => ?_, fun c80 => ?_⟩
                · try simp only [Int32.lt_iff_toInt_lt, Int32.le_iff_toInt_le, ← Int32.toInt_inj, Int32.toInt_toInt64, ti_m14, ti_m13, ti_m12, ti_m11, ti_m10, ti_m9, ti_m6, ti_m5, ti_m4, ti_m3, ti_m2, ti_m1, ti_0, ti_1, ti_2, ti_3, ti_4, ti_5, ti_6, ti_7, ti_8, ti_9, ti_10, ti_11, ti_12, ti_19, ti_20, ti_21, ti_44, ti_45, ti_48, ti_57, ti_59, ti_60, ti_98, ti_99, ti_100, ti_101, ti_103, ti_108, ti_110, ti_114, ti_127] at c80
                  subst hp
                  exact ⟨hI, hKr⟩
                · try simp only [Int32.lt_iff_toInt_lt, Int32.le_iff_toInt_le, ← Int32.toInt_inj, Int32.toInt_toInt64, ti_m14, ti_m13, ti_m12, ti_m11, ti_m10, ti_m9, ti_m6, ti_m5, ti_m4, ti_m3, ti_m2, ti_m1, ti_0, ti_1, ti_2, ti_3, ti_4, ti_5, ti_6, ti_7, ti_8, ti_9, ti_10, ti_11, ti_12, ti_19, ti_20, ti_21, ti_44, ti_45, ti_48, ti_57, ti_59, ti_60, ti_98, ti_99, ti_100, ti_101, ti_103, ti_108, ti_110, ti_114, ti_127] at c80
                  have f33 : 0 ≤ (it0 (474 + 2 * a1.toNatClampNeg) 1).toInt ∧ (it0 (474 + 2 * a1.toNatClampNeg) 1).toInt ≤ 60 := i8_6 hI (obt (rtp (vlt (hi29))))
                  try have f34 : (((it0 (474 + 2 * a1.toNatClampNeg) 1) - a5) : Int32).toInt = ((it0 (474 + 2 * a1.toNatClampNeg) 1)).toInt - (a5).toInt := sb32 (a := ((it0 (474 + 2 * a1.toNatClampNeg) 1)).toInt) (b := (a5).toInt) (rfl) (rfl) (by omega) (by omega)
                  refine ⟨fun c92 => ?_, fun c92 => ?_⟩
                  · try simp only [Int32.lt_iff_toInt_lt, Int32.le_iff_toInt_le, ← Int32.toInt_inj, Int32.toInt_toInt64, ti_m14, ti_m13, ti_m12, ti_m11, ti_m10, ti_m9, ti_m6, ti_m5, ti_m4, ti_m3, ti_m2, ti_m1, ti_0, ti_1, ti_2, ti_3, ti_4, ti_5, ti_6, ti_7, ti_8, ti_9, ti_10, ti_11, ti_12, ti_19, ti_20, ti_21, ti_44, ti_45, ti_48, ti_57, ti_59, ti_60, ti_98, ti_99, ti_100, ti_101, ti_103, ti_108, ti_110, ti_114, ti_127] at c92
                    subst hp
                    exact ⟨hI, hKr⟩
                  · try simp only [Int32.lt_iff_toInt_lt, Int32.le_iff_toInt_le, ← Int32.toInt_inj, Int32.toInt_toInt64, ti_m14, ti_m13, ti_m12, ti_m11, ti_m10, ti_m9, ti_m6, ti_m5, ti_m4, ti_m3, ti_m2, ti_m1, ti_0, ti_1, ti_2, ti_3, ti_4, ti_5, ti_6, ti_7, ti_8, ti_9, ti_10, ti_11, ti_12, ti_19, ti_20, ti_21, ti_44, ti_45, ti_48, ti_57, ti_59, ti_60, ti_98, ti_99, ti_100, ti_101, ti_103, ti_108, ti_110, ti_114, ti_127] at c92
                    have f35 : 0 ≤ (it0 (474 + 2 * a3.toNatClampNeg) 1).toInt ∧ (it0 (474 + 2 * a3.toNatClampNeg) 1).toInt ≤ 60 := i8_6 hI (obt (rtp (vlt (hi31))))
                    try have f36 : (((it0 (474 + 2 * a3.toNatClampNeg) 1) - a5) : Int32).toInt = ((it0 (474 + 2 * a3.toNatClampNeg) 1)).toInt - (a5).toInt := sb32 (a := ((it0 (474 + 2 * a3.toNatClampNeg) 1)).toInt) (b := (a5).toInt) (rfl) (rfl) (by omega) (by omega)
                    refine ⟨fun c105 => ?_, fun c105 => ?_⟩
                    · try simp only [Int32.lt_iff_toInt_lt, Int32.le_iff_toInt_le, ← Int32.toInt_inj, Int32.toInt_toInt64, ti_m14, ti_m13, ti_m12, ti_m11, ti_m10, ti_m9, ti_m6, ti_m5, ti_m4, ti_m3, ti_m2, ti_m1, ti_0, ti_1, ti_2, ti_3, ti_4, ti_5, ti_6, ti_7, ti_8, ti_9, ti_10, ti_11, ti_12, ti_19, ti_20, ti_21, ti_44, ti_45, ti_48, ti_57, ti_59, ti_60, ti_98, ti_99, ti_100, ti_101, ti_103, ti_108, ti_110, ti_114, ti_127] at c105
                      have hc38 : cpc ((474 + 2 * a1.toNatClampNeg) + 1) ((474 + 2 * a3.toNatClampNeg) + 1) NT 12 a2 a4 a5 := ⟨⟨tob (rtp (vlt (hi29))), tob (rtp (vlt (hi31)))⟩, ⟨by rw [Int32.lt_iff_toInt_lt, ti_0]; omega, by rw [Int32.lt_iff_toInt_lt, ti_0]; omega, by rw [Int32.lt_iff_toInt_lt, ti_0]; omega⟩, by rw [tln (rtp (vlt (hi29)))]; have z1 := cl32 (i := a2) (by omega); have z2 := cl32 (i := a5) (by omega); omega, by rw [tln (rtp (vlt (hi31)))]; have z1 := cl32 (i := a4) (by omega); have z2 := cl32 (i := a5) (by omega); omega⟩
                      refine ⟨hc38, ?_⟩
                      intro lg37 em_lg37
                      have hI39 : I8 lg37 it0 := hI
                      have hK40 : Kc (fun j => (473 ≤ j ∧ j < 486)) lg0 it0 lg37 it0 := by rw [em_lg37]; exact kc_cpl (by first | omega | (dsimp only; omega)) hKr
                      subst hp
                      exact ⟨hI39, hK40⟩
                    · try simp only [Int32.lt_iff_toInt_lt, Int32.le_iff_toInt_le, ← Int32.toInt_inj, Int32.toInt_toInt64, ti_m14, ti_m13, ti_m12, ti_m11, ti_m10, ti_m9, ti_m6, ti_m5, ti_m4, ti_m3, ti_m2, ti_m1, ti_0, ti_1, ti_2, ti_3, ti_4, ti_5, ti_6, ti_7, ti_8, ti_9, ti_10, ti_11, ti_12, ti_19, ti_20, ti_21, ti_44, ti_45, ti_48, ti_57, ti_59, ti_60, ti_98, ti_99, ti_100, ti_101, ti_103, ti_108, ti_110, ti_114, ti_127] at c105
                      subst hp
                      exact ⟨hI, hKr⟩
          · try simp only [Int32.lt_iff_toInt_lt, Int32.le_iff_toInt_le, ← Int32.toInt_inj, Int32.toInt_toInt64, ti_m14, ti_m13, ti_m12, ti_m11, ti_m10, ti_m9, ti_m6, ti_m5, ti_m4, ti_m3, ti_m2, ti_m1, ti_0, ti_1, ti_2, ti_3, ti_4, ti_5, ti_6, ti_7, ti_8, ti_9, ti_10, ti_11, ti_12, ti_19, ti_20, ti_21, ti_44, ti_45, ti_48, ti_57, ti_59, ti_60, ti_98, ti_99, ti_100, ti_101, ti_103, ti_108, ti_110, ti_114, ti_127] at c63
            subst hp
            exact ⟨hI, hKr⟩
        · try simp only [Int32.lt_iff_toInt_lt, Int32.le_iff_toInt_le, ← Int32.toInt_inj, Int32.toInt_toInt64, ti_m14, ti_m13, ti_m12, ti_m11, ti_m10, ti_m9, ti_m6, ti_m5, ti_m4, ti_m3, ti_m2, ti_m1, ti_0, ti_1, ti_2, ti_3, ti_4, ti_5, ti_6, ti_7, ti_8, ti_9, ti_10, ti_11, ti_12, ti_19, ti_20, ti_21, ti_44, ti_45, ti_48, ti_57, ti_59, ti_60, ti_98, ti_99, ti_100, ti_101, ti_103, ti_108, ti_110, ti_114, ti_127] at c47
          subst hp
          exact ⟨hI, hKr⟩
    · try simp only [Int32.lt_iff_toInt_lt, Int32.le_iff_toInt_le, ← Int32.toInt_inj, Int32.toInt_toInt64, ti_m14, ti_m13, ti_m12, ti_m11, ti_m10, ti_m9, ti_m6, ti_m5, ti_m4, ti_m3, ti_m2, ti_m1, ti_0, ti_1, ti_2, ti_3, ti_4, ti_5, ti_6, ti_7, ti_8, ti_9, ti_10, ti_11, ti_12, ti_19, ti_20, ti_21, ti_44, ti_45, ti_48, ti_57, ti_59, ti_60, ti_98, ti_99, ti_100, ti_101, ti_103, ti_108, ti_110, ti_114, ti_127] at c11
      subst hp
      exact ⟨hI, hKr⟩
