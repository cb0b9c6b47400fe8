/-! the reference is safe: ALL -/
set_option maxRecDepth 100000 in
theorem s_X9_does (a1 : Int32) {lg0 : LGt} {it0 : ITt} (hI : I9 lg0 it0) (hT : T9 lg0 it0) (h29 : ¬ lg0 489 29 = 0) (h35 : ¬ lg0 489 35 = 0) (hv : ((a1.toInt = 0 ∨ a1.toInt = 9) ∧ 1 ≤ (it0 489 0).toInt) ∨ (1 ≤ a1.toInt ∧ a1.toInt < (it0 489 0).toInt)) : w_X9_does a1 (fun (lg' : LGt) (it' : ITt) => (I9 lg' it' ∧ Kd (fun j => j = 502 ∨ j = 503 ∨ j = 504 ∨ j = 505 ∨ j = 506 ∨ j = 507) (fun k => k = 18 ∨ k = 19 ∨ k = 20 ∨ k = 28 ∨ k = 29 ∨ k = 36 ∨ k = 37 ∨ k = 38 ∨ k = 39 ∨ k = 40 ∨ k = 41) lg0 it0 lg' it') ∧ (T9 lg' it' ∧ ¬ lg' 489 29 = 0))  lg0 it0 := by
  have hb_a1 := And.intro a1.le_toInt a1.toInt_lt
  have hKr : Kd (fun j => j = 502 ∨ j = 503 ∨ j = 504 ∨ j = 505 ∨ j = 506 ∨ j = 507) (fun k => k = 18 ∨ k = 19 ∨ k = 20 ∨ k = 28 ∨ k = 29 ∨ k = 36 ∨ k = 37 ∨ k = 38 ∨ k = 39 ∨ k = 40 ∨ k = 41) lg0 it0 lg0 it0 := kd_r
  generalize hp : (fun (lg' : LGt) (it' : ITt) => (I9 lg' it' ∧ Kd (fun j => j = 502 ∨ j = 503 ∨ j = 504 ∨ j = 505 ∨ j = 506 ∨ j = 507) (fun k => k = 18 ∨ k = 19 ∨ k = 20 ∨ k = 28 ∨ k = 29 ∨ k = 36 ∨ k = 37 ∨ k = 38 ∨ k = 39 ∨ k = 40 ∨ k = 41) lg0 it0 lg' it') ∧ (T9 lg' it' ∧ ¬ lg' 489 29 = 0)) = Pz
  unfold w_X9_does
  have t0 := ti_0
  have t9 := ti_9
  have tm1 := ti_m1
  have f0 := i9_f hI (j := 489) (k := 0) rfl
  refine ⟨_, s_X9_moves   hI (hT) (h29) (h35), ?_⟩
  intro lg73 it74 hq
  obtain ⟨⟨hI75, hK76⟩, ha79⟩ := hq
  have hK77 : Kd (fun j => j = 502 ∨ j = 503 ∨ j = 504 ∨ j = 505 ∨ j = 506 ∨ j = 507) (fun k => k = 18 ∨ k = 19 ∨ k = 20 ∨ k = 28 ∨ k = 29 ∨ k = 36 ∨ k = 37 ∨ k = 38 ∨ k = 39 ∨ k = 40 ∨ k = 41) lg0 it0 lg73 it74 := kd_t hKr hK76 (fun j hj => by first | omega | exact False.elim hj | (dsimp only at hj ⊢; omega)) (fun j hj => by first | omega | exact False.elim hj | (dsimp only at hj ⊢; omega))
  try have e80 : (it74 489 0).toInt = (it0 489 0).toInt := congrArg Int32.toInt (hK76.2 0 (by first | decide | (dsimp only; decide) | omega | (dsimp only; omega))).2
  have PT81 : T9 lg73 it74 := T9_c hT (hK76.1 503 (by decide) (by first | decide | (dsimp only; decide) | omega | (dsimp only; omega))).1 (hK76.1 505 (by decide) (by first | decide | (dsimp only; decide) | omega | (dsimp only; omega))).1 (hK76.1 501 (by decide) (by first | decide | (dsimp only; decide) | omega | (dsimp only; omega))).2 (hK76.2 0 (by first | decide | (dsimp only; decide) | omega | (dsimp only; omega))).2
  have Pz2982 : ¬ lg73 489 29 = 0 := z_c (h29) (hK76.2 29 (by first | decide | (dsimp only; decide) | omega | (dsimp only; omega))).1
  have Pz3583 : ¬ lg73 489 35 = 0 := z_c (h35) (hK76.2 35 (by first | decide | (dsimp only; decide) | omega | (dsimp only; omega))).1
  refine ⟨fun c5 => ?_, fun c5 => ?_⟩
  · try simp only [Int32.lt_iff_toInt_lt, Int32.le_iff_toInt_le, ← Int32.toInt_inj, Int32.toInt_toInt64, ti_m14, ti_m13, ti_m12, ti_m11, ti_m10, ti_m9, ti_m6, ti_m5, ti_m4, ti_m3, ti_m2, ti_m1, ti_0, ti_1, ti_2, ti_3, ti_4, ti_5, ti_6, ti_7, ti_8, ti_9, ti_10, ti_11, ti_12, ti_19, ti_20, ti_21, ti_44, ti_45, ti_48, ti_57, ti_59, ti_60, ti_98, ti_99, ti_100, ti_101, ti_103, ti_108, ti_110, ti_114, ti_127] at c5
    refine ⟨fun c23 => ?_, fun c23 => ?_⟩
    · try simp only [Int32.lt_iff_toInt_lt, Int32.le_iff_toInt_le, ← Int32.toInt_inj, Int32.toInt_toInt64, ti_m14, ti_m13, ti_m12, ti_m11, ti_m10, ti_m9, ti_m6, ti_m5, ti_m4, ti_m3, ti_m2, ti_m1, ti_0, ti_1, ti_2, ti_3, ti_4, ti_5, ti_6, ti_7, ti_8, ti_9, ti_10, ti_11, ti_12, ti_19, ti_20, ti_21, ti_44, ti_45, ti_48, ti_57, ti_59, ti_60, ti_98, ti_99, ti_100, ti_101, ti_103, ti_108, ti_110, ti_114, ti_127] at c23
      try have f85 : ((a1 - 1) : Int32).toInt = (a1).toInt - 1 := sb32 (a := (a1).toInt) (b := 1) (rfl) (ti_1) (by omega) (by omega)
      refine ⟨_, s_X9_pushes  ((a1 - 1)) hI75 (PT81) (by first | omega | (constructor <;> first | omega | ((try simp only [Int32.lt_iff_toInt_lt, Int32.le_iff_toInt_le, ← Int32.toInt_inj, Int32.toInt_toInt64, ti_m14, ti_m13, ti_m12, ti_m11, ti_m10, ti_m9, ti_m6, ti_m5, ti_m4, ti_m3, ti_m2, ti_m1, ti_0, ti_1, ti_2, ti_3, ti_4, ti_5, ti_6, ti_7, ti_8, ti_9, ti_10, ti_11, ti_12, ti_19, ti_20, ti_21, ti_44, ti_45, ti_48, ti_57, ti_59, ti_60, ti_98, ti_99, ti_100, ti_101, ti_103, ti_108, ti_110, ti_114, ti_127]); omega))), ?_⟩
      intro lg86 it87 hq
      obtain ⟨⟨hI88, hK89⟩, ha92⟩ := hq
      have hK90 : Kd (fun j => j = 502 ∨ j = 503 ∨ j = 504 ∨ j = 505 ∨ j = 506 ∨ j = 507) (fun k => k = 18 ∨ k = 19 ∨ k = 20 ∨ k = 28 ∨ k = 29 ∨ k = 36 ∨ k = 37 ∨ k = 38 ∨ k = 39 ∨ k = 40 ∨ k = 41) lg0 it0 lg86 it87 := kd_t hK77 hK89 (fun j hj => by first | omega | exact False.elim hj | (dsimp only at hj ⊢; omega)) (fun j hj => by first | omega | exact False.elim hj | (dsimp only at hj ⊢; omega))
      try have e93 : (it87 489 0).toInt = (it74 489 0).toInt := congrArg Int32.toInt (hK89.2 0 (by first | decide | (dsimp only; decide) | omega | (dsimp only; omega))).2
      have PT94 : T9 lg86 it87 := T9_c PT81 (hK89.1 503 (by decide) (by first | decide | (dsimp only; decide) | omega | (dsimp only; omega))).1 (hK89.1 505 (by decide) (by first | decide | (dsimp only; decide) | omega | (dsimp only; omega))).1 (hK89.1 501 (by decide) (by first | decide | (dsimp only; decide) | omega | (dsimp only; omega))).2 (hK89.2 0 (by first | decide | (dsimp only; decide) | omega | (dsimp only; omega))).2
      have Pz2995 : ¬ lg86 489 29 = 0 := z_c (Pz2982) (hK89.2 29 (by first | decide | (dsimp only; decide) | omega | (dsimp only; omega))).1
      have Pz3596 : ¬ lg86 489 35 = 0 := z_c (Pz3583) (hK89.2 35 (by first | decide | (dsimp only; decide) | omega | (dsimp only; omega))).1
      have Pz3797 : ¬ lg86 489 37 = 0 := z_c (ha79.1) (hK89.2 37 (by first | decide | (dsimp only; decide) | omega | (dsimp only; omega))).1
      have PN98 : N9 lg86 it87 := N9_c ha79.2 (hK89.1 507 (by decide) (by first | decide | (dsimp only; decide) | omega | (dsimp only; omega))).1 (hK89.2 0 (by first | decide | (dsimp only; decide) | omega | (dsimp only; omega))).2
      have PQ99 : (¬ a1 = 0 → ¬ a1 = 9 → ¬ lg86 489 41 = 0) := fun _ _ => ha92.2
      unfold w_X9_does_b50
      have f100 : 0 ≤ (it87 489 20).toInt ∧ (it87 489 20).toInt ≤ 1 := i9_f hI88 (j := 489) (k := 20) rfl
      refine ⟨fun c54 => ?_, fun c54 => ?_⟩
      · try simp only [Int32.lt_iff_toInt_lt, Int32.le_iff_toInt_le, ← Int32.toInt_inj, Int32.toInt_toInt64, ti_m14, ti_m13, ti_m12, ti_m11, ti_m10, ti_m9, ti_m6, ti_m5, ti_m4, ti_m3, ti_m2, ti_m1, ti_0, ti_1, ti_2, ti_3, ti_4, ti_5, ti_6, ti_7, ti_8, ti_9, ti_10, ti_11, ti_12, ti_19, ti_20, ti_21, ti_44, ti_45, ti_48, ti_57, ti_59, ti_60, ti_98, ti_99, ti_100, ti_101, ti_103, ti_108, ti_110, ti_114, ti_127] at c54
        intro lg101 em102
        have hI103 : I9 lg101 it87 := by rw [em102]; exact i9_l hI88 (by decide) (by decide) (by decide)
        have hK104 : Kd (fun j => j = 502 ∨ j = 503 ∨ j = 504 ∨ j = 505 ∨ j = 506 ∨ j = 507) (fun k => k = 18 ∨ k = 19 ∨ k = 20 ∨ k = 28 ∨ k = 29 ∨ k = 36 ∨ k = 37 ∨ k = 38 ∨ k = 39 ∨ k = 40 ∨ k = 41) lg0 it0 lg101 it87 := by rw [em102]; exact kd_lf (by first | decide | (dsimp only; decide) | omega | (dsimp only; omega)) hK90
        have PT105 : T9 lg101 it87 := T9_c PT94 (by rw [em102]; exact u2_row (by decide)) (by rw [em102]; exact u2_row (by decide)) rfl rfl
        have Pz29106 : ¬ lg101 489 29 = 0 := z_c (Pz2995) (by rw [em102]; exact u2_ne (by decide))
        have Pz35107 : ¬ lg101 489 35 = 0 := z_c (Pz3596) (by rw [em102]; exact u2_ne (by decide))
        have Pz37108 : ¬ lg101 489 37 = 0 := z_c (Pz3797) (by rw [em102]; exact u2_ne (by decide))
        have PN109 : N9 lg101 it87 := N9_c PN98 (by rw [em102]; exact u2_row (by decide)) rfl
        have Pz39110 : ¬ lg101 489 39 = 0 := z_c (ha92.1) (by rw [em102]; exact u2_ne (by decide))
        have Pz41111 : ¬ lg101 489 41 = 0 := z_c (ha92.2) (by rw [em102]; exact u2_ne (by decide))
        have PQ112 : (¬ a1 = 0 → ¬ a1 = 9 → ¬ lg101 489 41 = 0) := fun h1 h2 => z_c (PQ99 h1 h2) (by rw [em102]; exact u2_ne (by decide))
        intro lg113 em114
        have hI115 : I9 lg113 it87 := by rw [em114]; exact i9_l hI103 (by decide) (by decide) (by decide)
        have hK116 : Kd (fun j => j = 502 ∨ j = 503 ∨ j = 504 ∨ j = 505 ∨ j = 506 ∨ j = 507) (fun k => k = 18 ∨ k = 19 ∨ k = 20 ∨ k = 28 ∨ k = 29 ∨ k = 36 ∨ k = 37 ∨ k = 38 ∨ k = 39 ∨ k = 40 ∨ k = 41) lg0 it0 lg113 it87 := by rw [em114]; exact kd_lf (by first | decide | (dsimp only; decide) | omega | (dsimp only; omega)) hK104
        have PT117 : T9 lg113 it87 := T9_c PT105 (by rw [em114]; exact u2_row (by decide)) (by rw [em114]; exact u2_row (by decide)) rfl rfl
        have Pz35118 : ¬ lg113 489 35 = 0 := z_c (Pz35107) (by rw [em114]; exact u2_ne (by decide))
        have Pz37119 : ¬ lg113 489 37 = 0 := z_c (Pz37108) (by rw [em114]; exact u2_ne (by decide))
        have PN120 : N9 lg113 it87 := N9_c PN109 (by rw [em114]; exact u2_row (by decide)) rfl
        have Pz39121 : ¬ lg113 489 39 = 0 := z_c (Pz39110) (by rw [em114]; exact u2_ne (by decide))
        have Pz41122 : ¬ lg113 489 41 = 0 := z_c (Pz41111) (by rw [em114]; exact u2_ne (by decide))
        have PQ123 : (¬ a1 = 0 → ¬ a1 = 9 → ¬ lg113 489 41 = 0) := fun h1 h2 => z_c (PQ112 h1 h2) (by rw [em114]; exact u2_ne (by decide))
        have Pz124 : ¬ lg113 489 29 = 0 := by rw [em114, u2_eq]; exact Pz37108
        have lp76 : ∀ (n : Nat) (x2 : Int32) (lg : LGt) (it : ITt), I9 lg it → Kd (fun j => j = 502 ∨ j = 503 ∨ j = 504 ∨ j = 505 ∨ j = 506 ∨ j = 507) (fun k => k = 18 ∨ k = 19 ∨ k = 20 ∨ k = 28 ∨ k = 29 ∨ k = 36 ∨ k = 37 ∨ k = 38 ∨ k = 39 ∨ k = 40 ∨ k = 41) lg0 it0 lg it → ((0 ≤ (x2).toInt) ∧ (T9 lg it) ∧ (N9 lg it) ∧ (¬ lg 489 29 = 0) ∧ (¬ lg 489 39 = 0) ∧ ((¬ a1 = 0 → ¬ a1 = 9 → ¬ lg 489 41 = 0)) ∧ ((it 489 0).toInt = (it0 489 0).toInt)) → (7 - (x2).toInt).toNat < n → w_X9_does_b76 a1 Pz  n x2 lg it := by
          intro n76
          induction n76 with
          | zero => intro x2 lg it _ _ _ hn; exact absurd hn (Nat.not_lt_zero _)
          | succ n76 ih76 =>
            intro x2 lg127 it128 hI125 hK126 hv hn
            unfold w_X9_does_b76
            obtain ⟨hv76_0, hv76_1, hv76_2, hv76_3, hv76_4, hv76_5, hv76_6⟩ := hv
            have f129 : 0 ≤ (it128 489 0).toInt ∧ (it128 489 0).toInt ≤ 6 := i9_f hI125 (j := 489) (k := 0) rfl
            refine ⟨fun c81 => ?_, fun c81 => ?_⟩
            · try simp only [Int32.lt_iff_toInt_lt, Int32.le_iff_toInt_le, ← Int32.toInt_inj, Int32.toInt_toInt64, ti_m14, ti_m13, ti_m12, ti_m11, ti_m10, ti_m9, ti_m6, ti_m5, ti_m4, ti_m3, ti_m2, ti_m1, ti_0, ti_1, ti_2, ti_3, ti_4, ti_5, ti_6, ti_7, ti_8, ti_9, ti_10, ti_11, ti_12, ti_19, ti_20, ti_21, ti_44, ti_45, ti_48, ti_57, ti_59, ti_60, ti_98, ti_99, ti_100, ti_101, ti_103, ti_108, ti_110, ti_114, ti_127] at c81
              refine ⟨fun c116 => ?_, fun c116 => ?_⟩
              · try simp only [Int32.lt_iff_toInt_lt, Int32.le_iff_toInt_le, ← Int32.toInt_inj, Int32.toInt_toInt64, ti_m14, ti_m13, ti_m12, ti_m11, ti_m10, ti_m9, ti_m6, ti_m5, ti_m4, ti_m3, ti_m2, ti_m1, ti_0, ti_1, ti_2, ti_3, ti_4, ti_5, ti_6, ti_7, ti_8, ti_9, ti_10, ti_11, ti_12, ti_19, ti_20, ti_21, ti_44, ti_45, ti_48, ti_57, ti_59, ti_60, ti_98, ti_99, ti_100, ti_101, ti_103, ti_108, ti_110, ti_114, ti_127] at c116
                refine ⟨fun c126 => ?_, fun c126 => ?_⟩
                · try simp only [Int32.lt_iff_toInt_lt, Int32.le_iff_toInt_le, ← Int32.toInt_inj, Int32.toInt_toInt64, ti_m14, ti_m13, ti_m12, ti_m11, ti_m10, ti_m9, ti_m6, ti_m5, ti_m4, ti_m3, ti_m2, ti_m1, ti_0, ti_1, ti_2, ti_3, ti_4, ti_5, ti_6, ti_7, ti_8, ti_9, ti_10, ti_11, ti_12, ti_19, ti_20, ti_21, ti_44, ti_45, ti_48, ti_57, ti_59, ti_60, ti_98, ti_99, ti_100, ti_101, ti_103, ti_108, ti_110, ti_114, ti_127] at c126
                  try have f130 : ((a1 - 1) : Int32).toInt = (a1).toInt - 1 := sb32 (a := (a1).toInt) (b := 1) (rfl) (ti_1) (by omega) (by omega)
                  unfold w_X9_does_b141
                  refine ⟨_, s_X9_becomes  ((a1 - 1)) ((lg127 489 38)) ((lg127 489 39)) hI125 (by first | omega | (constructor <;> first | decide | omega | ((try simp only [Int32.lt_iff_toInt_lt, Int32.le_iff_toInt_le, ← Int32.toInt_inj, Int32.toInt_toInt64, ti_m14, ti_m13, ti_m12, ti_m11, ti_m10, ti_m9, ti_m6, ti_m5, ti_m4, ti_m3, ti_m2, ti_m1, ti_0, ti_1, ti_2, ti_3, ti_4, ti_5, ti_6, ti_7, ti_8, ti_9, ti_10, ti_11, ti_12, ti_19, ti_20, ti_21, ti_44, ti_45, ti_48, ti_57, ti_59, ti_60, ti_98, ti_99, ti_100, ti_101, ti_103, ti_108, ti_110, ti_114, ti_127]); omega))) (by assumption), ?_⟩
                  intro lg131 it132 hq
                  obtain ⟨⟨hI133, hK134⟩, ha137⟩ := hq
                  have hK135 : Kd (fun j => j = 502 ∨ j = 503 ∨ j = 504 ∨ j = 505 ∨ j = 506 ∨ j = 507) (fun k => k = 18 ∨ k = 19 ∨ k = 20 ∨ k = 28 ∨ k = 29 ∨ k = 36 ∨ k = 37 ∨ k = 38 ∨ k = 39 ∨ k = 40 ∨ k = 41) lg0 it0 lg131 it132 := kd_t hK126 hK134 (fun j hj => by first | omega | exact False.elim hj | (dsimp only at hj ⊢; omega)) (fun j hj => by first | omega | exact False.elim hj | (dsimp only at hj ⊢; omega))
                  try have e138 : (it132 489 0).toInt = (it128 489 0).toInt := congrArg Int32.toInt (hK134.2 0 (by first | decide | (dsimp only; decide) | omega | (dsimp only; omega))).2
                  have PN139 : N9 lg131 it132 := N9_c hv76_2 (hK134.1 507 (by decide) (by first | decide | (dsimp only; decide) | omega | (dsimp only; omega))).1 (hK134.2 0 (by first | decide | (dsimp only; decide) | omega | (dsimp only; omega))).2
                  have Pz29140 : ¬ lg131 489 29 = 0 := z_c (hv76_3) (hK134.2 29 (by first | decide | (dsimp only; decide) | omega | (dsimp only; omega))).1
                  have Pz39141 : ¬ lg131 489 39 = 0 := z_c (hv76_4) (hK134.2 39 (by first | decide | (dsimp only; decide) | omega | (dsimp only; omega))).1
                  have PQ142 : (¬ a1 = 0 → ¬ a1 = 9 → ¬ lg131 489 41 = 0) := fun h1 h2 => z_c (hv76_5 h1 h2) (hK134.2 41 (by first | decide | (dsimp only; decide) | omega | (dsimp only; omega))).1
                  have PT143 : T9 lg131 it132 := ha137 hv76_1
                  refine ⟨fun c153 => ?_, fun c153 => ?_⟩
                  · try simp only [Int32.lt_iff_toInt_lt, Int32.le_iff_toInt_le, ← Int32.toInt_inj, Int32.toInt_toInt64, ti_m14, ti_m13, ti_m12, ti_m11, ti_m10, ti_m9, ti_m6, ti_m5, ti_m4, ti_m3, ti_m2, ti_m1, ti_0, ti_1, ti_2, ti_3, ti_4, ti_5, ti_6, ti_7, ti_8, ti_9, ti_10, ti_11, ti_12, ti_19, ti_20, ti_21, ti_44, ti_45, ti_48, ti_57, ti_59, ti_60, ti_98, ti_99, ti_100, ti_101, ti_103, ti_108, ti_110, ti_114, ti_127] at c153
                    subst hp
                    exact ⟨⟨hI133, hK135⟩, ⟨PT143, Pz29140⟩⟩
                  · try simp only [Int32.lt_iff_toInt_lt, Int32.le_iff_toInt_le, ← Int32.toInt_inj, Int32.toInt_toInt64, ti_m14, ti_m13, ti_m12, ti_m11, ti_m10, ti_m9, ti_m6, ti_m5, ti_m4, ti_m3, ti_m2, ti_m1, ti_0, ti_1, ti_2, ti_3, ti_4, ti_5, ti_6, ti_7, ti_8, ti_9, ti_10, ti_11, ti_12, ti_19, ti_20, ti_21, ti_44, ti_45, ti_48, ti_57, ti_59, ti_60, ti_98, ti_99, ti_100, ti_101, ti_103, ti_108, ti_110, ti_114, ti_127] at c153
                    refine ⟨fun c159 => ?_, fun c159 => ?_⟩
                    · try simp only [Int32.lt_iff_toInt_lt, Int32.le_iff_toInt_le, ← Int32.toInt_inj, Int32.toInt_toInt64, ti_m14, ti_m13, ti_m12, ti_m11, ti_m10, ti_m9, ti_m6, ti_m5, ti_m4, ti_m3, ti_m2, ti_m1, ti_0, ti_1, ti_2, ti_3, ti_4, ti_5, ti_6, ti_7, ti_8, ti_9, ti_10, ti_11, ti_12, ti_19, ti_20, ti_21, ti_44, ti_45, ti_48, ti_57, ti_59, ti_60, ti_98, ti_99, ti_100, ti_101, ti_103, ti_108, ti_110, ti_114, ti_127] at c159
                      subst hp
                      exact ⟨⟨hI133, hK135⟩, ⟨PT143, Pz29140⟩⟩
                    · try simp only [Int32.lt_iff_toInt_lt, Int32.le_iff_toInt_le, ← Int32.toInt_inj, Int32.toInt_toInt64, ti_m14, ti_m13, ti_m12, ti_m11, ti_m10, ti_m9, ti_m6, ti_m5, ti_m4, ti_m3, ti_m2, ti_m1, ti_0, ti_1, ti_2, ti_3, ti_4, ti_5, ti_6, ti_7, ti_8, ti_9, ti_10, ti_11, ti_12, ti_19, ti_20, ti_21, ti_44, ti_45, ti_48, ti_57, ti_59, ti_60, ti_98, ti_99, ti_100, ti_101, ti_103, ti_108, ti_110, ti_114, ti_127] at c159
                      refine ⟨_, s_X9_becomes  (a1) ((lg131 489 40)) ((lg131 489 41)) hI133 (by first | omega | (constructor <;> first | decide | omega | ((try simp only [Int32.lt_iff_toInt_lt, Int32.le_iff_toInt_le, ← Int32.toInt_inj, Int32.toInt_toInt64, ti_m14, ti_m13, ti_m12, ti_m11, ti_m10, ti_m9, ti_m6, ti_m5, ti_m4, ti_m3, ti_m2, ti_m1, ti_0, ti_1, ti_2, ti_3, ti_4, ti_5, ti_6, ti_7, ti_8, ti_9, ti_10, ti_11, ti_12, ti_19, ti_20, ti_21, ti_44, ti_45, ti_48, ti_57, ti_59, ti_60, ti_98, ti_99, ti_100, ti_101, ti_103, ti_108, ti_110, ti_114, ti_127]); omega))) (PQ142 (fun q => absurd ((congrArg Int32.toInt q).trans ti_0) (by omega)) (fun q => absurd ((congrArg Int32.toInt q).trans ti_9) (by omega))), ?_⟩
                      intro lg145 it146 hq
                      obtain ⟨⟨hI147, hK148⟩, ha151⟩ := hq
                      have hK149 : Kd (fun j => j = 502 ∨ j = 503 ∨ j = 504 ∨ j = 505 ∨ j = 506 ∨ j = 507) (fun k => k = 18 ∨ k = 19 ∨ k = 20 ∨ k = 28 ∨ k = 29 ∨ k = 36 ∨ k = 37 ∨ k = 38 ∨ k = 39 ∨ k = 40 ∨ k = 41) lg0 it0 lg145 it146 := kd_t hK135 hK148 (fun j hj => by first | omega | exact False.elim hj | (dsimp only at hj ⊢; omega)) (fun j hj => by first | omega | exact False.elim hj | (dsimp only at hj ⊢; omega))
                      try have e152 : (it146 489 0).toInt = (it132 489 0).toInt := congrArg Int32.toInt (hK148.2 0 (by first | decide | (dsimp only; decide) | omega | (dsimp only; omega))).2
                      have PN153 : N9 lg145 it146 := N9_c PN139 (hK148.1 507 (by decide) (by first | decide | (dsimp only; decide) | omega | (dsimp only; omega))).1 (hK148.2 0 (by first | decide | (dsimp only; decide) | omega | (dsimp only; omega))).2
                      have Pz29154 : ¬ lg145 489 29 = 0 := z_c (Pz29140) (hK148.2 29 (by first | decide | (dsimp only; decide) | omega | (dsimp only; omega))).1
                      have Pz39155 : ¬ lg145 489 39 = 0 := z_c (Pz39141) (hK148.2 39 (by first | decide | (dsimp only; decide) | omega | (dsimp only; omega))).1
                      have PQ156 : (¬ a1 = 0 → ¬ a1 = 9 → ¬ lg145 489 41 = 0) := fun h1 h2 => z_c (PQ142 h1 h2) (hK148.2 41 (by first | decide | (dsimp only; decide) | omega | (dsimp only; omega))).1
                      have PT157 : T9 lg145 it146 := ha151 PT143
                      subst hp
                      exact ⟨⟨hI147, hK149⟩, ⟨PT157, Pz29154⟩⟩
                · try simp only [Int32.lt_iff_toInt_lt, Int32.le_iff_toInt_le, ← Int32.toInt_inj, Int32.toInt_toInt64, ti_m14, ti_m13, ti_m12, ti_m11, ti_m10, ti_m9, ti_m6, ti_m5, ti_m4, ti_m3, ti_m2, ti_m1, ti_0, ti_1, ti_2, ti_3, ti_4, ti_5, ti_6, ti_7, ti_8, ti_9, ti_10, ti_11, ti_12, ti_19, ti_20, ti_21, ti_44, ti_45, ti_48, ti_57, ti_59, ti_60, ti_98, ti_99, ti_100, ti_101, ti_103, ti_108, ti_110, ti_114, ti_127] at c126
                  try have f159 : (((it128 489 0) - 1) : Int32).toInt = ((it128 489 0)).toInt - 1 := sb32 (a := ((it128 489 0)).toInt) (b := 1) (rfl) (ti_1) (by omega) (by omega)
                  unfold w_X9_does_b141
                  refine ⟨_, s_X9_becomes  (((it128 489 0) - 1)) ((lg127 489 38)) ((lg127 489 39)) hI125 (by first | omega | (constructor <;> first | decide | omega | ((try simp only [Int32.lt_iff_toInt_lt, Int32.le_iff_toInt_le, ← Int32.toInt_inj, Int32.toInt_toInt64, ti_m14, ti_m13, ti_m12, ti_m11, ti_m10, ti_m9, ti_m6, ti_m5, ti_m4, ti_m3, ti_m2, ti_m1, ti_0, ti_1, ti_2, ti_3, ti_4, ti_5, ti_6, ti_7, ti_8, ti_9, ti_10, ti_11, ti_12, ti_19, ti_20, ti_21, ti_44, ti_45, ti_48, ti_57, ti_59, ti_60, ti_98, ti_99, ti_100, ti_101, ti_103, ti_108, ti_110, ti_114, ti_127]); omega))) (by assumption), ?_⟩
                  intro lg160 it161 hq
                  obtain ⟨⟨hI162, hK163⟩, ha166⟩ := hq
                  have hK164 : Kd (fun j => j = 502 ∨ j = 503 ∨ j = 504 ∨ j = 505 ∨ j = 506 ∨ j = 507) (fun k => k = 18 ∨ k = 19 ∨ k = 20 ∨ k = 28 ∨ k = 29 ∨ k = 36 ∨ k = 37 ∨ k = 38 ∨ k = 39 ∨ k = 40 ∨ k = 41) lg0 it0 lg160 it161 := kd_t hK126 hK163 (fun j hj => by first | omega | exact False.elim hj | (dsimp only at hj ⊢; omega)) (fun j hj => by first | omega | exact False.elim hj | (dsimp only at hj ⊢; omega))
                  try have e167 : (it161 489 0).toInt = (it128 489 0).toInt := congrArg Int32.toInt (hK163.2 0 (by first | decide | (dsimp only; decide) | omega | (dsimp only; omega))).2
                  have PN168 : N9 lg160 it161 := N9_c hv76_2 (hK163.1 507 (by decide) (by first | decide | (dsimp only; decide) | omega | (dsimp only; omega))).1 (hK163.2 0 (by first | decide | (dsimp only; decide) | omega | (dsimp only; omega))).2
                  have Pz29169 : ¬ lg160 489 29 = 0 := z_c (hv76_3) (hK163.2 29 (by first | decide | (dsimp only; decide) | omega | (dsimp only; omega))).1
                  have Pz39170 : ¬ lg160 489 39 = 0 := z_c (hv76_4) (hK163.2 39 (by first | decide | (dsimp only; decide) | omega | (dsimp only; omega))).1
                  have PQ171 : (¬ a1 = 0 → ¬ a1 = 9 → ¬ lg160 489 41 = 0) := fun h1 h2 => z_c (hv76_5 h1 h2) (hK163.2 41 (by first | decide | (dsimp only; decide) | omega | (dsimp only; omega))).1
                  have PT172 : T9 lg160 it161 := ha166 hv76_1
                  refine ⟨fun c153 => ?_, fun c153 => ?_⟩
                  · try simp only [Int32.lt_iff_toInt_lt, Int32.le_iff_toInt_le, ← Int32.toInt_inj, Int32.toInt_toInt64, ti_m14, ti_m13, ti_m12, ti_m11, ti_m10, ti_m9, ti_m6, ti_m5, ti_m4, ti_m3, ti_m2, ti_m1, ti_0, ti_1, ti_2, ti_3, ti_4, ti_5, ti_6, ti_7, ti_8, ti_9, ti_10, ti_11, ti_12, ti_19, ti_20, ti_21, ti_44, ti_45, ti_48, ti_57, ti_59, ti_60, ti_98, ti_99, ti_100, ti_101, ti_103, ti_108, ti_110, ti_114, ti_127] at c153
                    subst hp
                    exact ⟨⟨hI162, hK164⟩, ⟨PT172, Pz29169⟩⟩
                  · try simp only [Int32.lt_iff_toInt_lt, Int32.le_iff_toInt_le, ← Int32.toInt_inj, Int32.toInt_toInt64, ti_m14, ti_m13, ti_m12, ti_m11, ti_m10, ti_m9, ti_m6, ti_m5, ti_m4, ti_m3, ti_m2, ti_m1, ti_0, ti_1, ti_2, ti_3, ti_4, ti_5, ti_6, ti_7, ti_8, ti_9, ti_10, ti_11, ti_12, ti_19, ti_20, ti_21, ti_44, ti_45, ti_48, ti_57, ti_59, ti_60, ti_98, ti_99, ti_100, ti_101, ti_103, ti_108, ti_110, ti_114, ti_127] at c153
                    refine ⟨fun c159 => ?_, fun c159 => ?_⟩
                    · try simp only [Int32.lt_iff_toInt_lt, Int32.le_iff_toInt_le, ← Int32.toInt_inj, Int32.toInt_toInt64, ti_m14, ti_m13, ti_m12, ti_m11, ti_m10, ti_m9, ti_m6, ti_m5, ti_m4, ti_m3, ti_m2, ti_m1, ti_0, ti_1, ti_2, ti_3, ti_4, ti_5, ti_6, ti_7, ti_8, ti_9, ti_10, ti_11, ti_12, ti_19, ti_20, ti_21, ti_44, ti_45, ti_48, ti_57, ti_59, ti_60, ti_98, ti_99, ti_100, ti_101, ti_103, ti_108, ti_110, ti_114, ti_127] at c159
                      subst hp
                      exact ⟨⟨hI162, hK164⟩, ⟨PT172, Pz29169⟩⟩
                    · try simp only [Int32.lt_iff_toInt_lt, Int32.le_iff_toInt_le, ← Int32.toInt_inj, Int32.toInt_toInt64, ti_m14, ti_m13, ti_m12, ti_m11, ti_m10, ti_m9, ti_m6, ti_m5, ti_m4, ti_m3, ti_m2, ti_m1, ti_0, ti_1, ti_2, ti_3, ti_4, ti_5, ti_6, ti_7, ti_8, ti_9, ti_10, ti_11, ti_12, ti_19, ti_20, ti_21, ti_44, ti_45, ti_48, ti_57, ti_59, ti_60, ti_98, ti_99, ti_100, ti_101, ti_103, ti_108, ti_110, ti_114, ti_127] at c159
                      refine ⟨_, s_X9_becomes  (a1) ((lg160 489 40)) ((lg160 489 41)) hI162 (by first | omega | (constructor <;> first | decide | omega | ((try simp only [Int32.lt_iff_toInt_lt, Int32.le_iff_toInt_le, ← Int32.toInt_inj, Int32.toInt_toInt64, ti_m14, ti_m13, ti_m12, ti_m11, ti_m10, ti_m9, ti_m6, ti_m5, ti_m4, ti_m3, ti_m2, ti_m1, ti_0, ti_1, ti_2, ti_3, ti_4, ti_5, ti_6, ti_7, ti_8, ti_9, ti_10, ti_11, ti_12, ti_19, ti_20, ti_21, ti_44, ti_45, ti_48, ti_57, ti_59, ti_60, ti_98, ti_99, ti_100, ti_101, ti_103, ti_108, ti_110, ti_114, ti_127]); omega))) (PQ171 (fun q => absurd ((congrArg Int32.toInt q).trans ti_0) (by omega)) (fun q => absurd ((congrArg Int32.toInt q).trans ti_9) (by omega))), ?_⟩
                      intro lg174 it175 hq
                      obtain ⟨⟨hI176, hK177⟩, ha180⟩ := hq
                      have hK178 : Kd (fun j => j = 502 ∨ j = 503 ∨ j = 504 ∨ j = 505 ∨ j = 506 ∨ j = 507) (fun k => k = 18 ∨ k = 19 ∨ k = 20 ∨ k = 28 ∨ k = 29 ∨ k = 36 ∨ k = 37 ∨ k = 38 ∨ k = 39 ∨ k = 40 ∨ k = 41) lg0 it0 lg174 it175 := kd_t hK164 hK177 (fun j hj => by first | omega | exact False.elim hj | (dsimp only at hj ⊢; omega)) (fun j hj => by first | omega | exact False.elim hj | (dsimp only at hj ⊢; omega))
                      try have e181 : (it175 489 0).toInt = (it161 489 0).toInt := congrArg Int32.toInt (hK177.2 0 (by first | decide | (dsimp only; decide) | omega | (dsimp only; omega))).2
                      have PN182 : N9 lg174 it175 := N9_c PN168 (hK177.1 507 (by decide) (by first | decide | (dsimp only; decide) | omega | (dsimp only; omega))).1 (hK177.2 0 (by first | decide | (dsimp only; decide) | omega | (dsimp only; omega))).2
                      have Pz29183 : ¬ lg174 489 29 = 0 := z_c (Pz29169) (hK177.2 29 (by first | decide | (dsimp only; decide) | omega | (dsimp only; omega))).1
                      have Pz39184 : ¬ lg174 489 39 = 0 := z_c (Pz39170) (hK177.2 39 (by first | decide | (dsimp only; decide) | omega | (dsimp only; omega))).1
                      have PQ185 : (¬ a1 = 0 → ¬ a1 = 9 → ¬ lg174 489 41 = 0) := fun h1 h2 => z_c (PQ171 h1 h2) (hK177.2 41 (by first | decide | (dsimp only; decide) | omega | (dsimp only; omega))).1
                      have PT186 : T9 lg174 it175 := ha180 PT172
                      subst hp
                      exact ⟨⟨hI176, hK178⟩, ⟨PT186, Pz29183⟩⟩
              · try simp only [Int32.lt_iff_toInt_lt, Int32.le_iff_toInt_le, ← Int32.toInt_inj, Int32.toInt_toInt64, ti_m14, ti_m13, ti_m12, ti_m11, ti_m10, ti_m9, ti_m6, ti_m5, ti_m4, ti_m3, ti_m2, ti_m1, ti_0, ti_1, ti_2, ti_3, ti_4, ti_5, ti_6, ti_7, ti_8, ti_9, ti_10, ti_11, ti_12, ti_19, ti_20, ti_21, ti_44, ti_45, ti_48, ti_57, ti_59, ti_60, ti_98, ti_99, ti_100, ti_101, ti_103, ti_108, ti_110, ti_114, ti_127] at c116
                unfold w_X9_does_b141
                refine ⟨_, s_X9_becomes  ((0 : Int32)) ((lg127 489 38)) ((lg127 489 39)) hI125 (by first | omega | (constructor <;> first | decide | omega | ((try simp only [Int32.lt_iff_toInt_lt, Int32.le_iff_toInt_le, ← Int32.toInt_inj, Int32.toInt_toInt64, ti_m14, ti_m13, ti_m12, ti_m11, ti_m10, ti_m9, ti_m6, ti_m5, ti_m4, ti_m3, ti_m2, ti_m1, ti_0, ti_1, ti_2, ti_3, ti_4, ti_5, ti_6, ti_7, ti_8, ti_9, ti_10, ti_11, ti_12, ti_19, ti_20, ti_21, ti_44, ti_45, ti_48, ti_57, ti_59, ti_60, ti_98, ti_99, ti_100, ti_101, ti_103, ti_108, ti_110, ti_114, ti_127]); omega))) (by assumption), ?_⟩
                intro lg188 it189 hq
                obtain ⟨⟨hI190, hK191⟩, ha194⟩ := hq
                have hK192 : Kd (fun j => j = 502 ∨ j = 503 ∨ j = 504 ∨ j = 505 ∨ j = 506 ∨ j = 507) (fun k => k = 18 ∨ k = 19 ∨ k = 20 ∨ k = 28 ∨ k = 29 ∨ k = 36 ∨ k = 37 ∨ k = 38 ∨ k = 39 ∨ k = 40 ∨ k = 41) lg0 it0 lg188 it189 := kd_t hK126 hK191 (fun j hj => by first | omega | exact False.elim hj | (dsimp only at hj ⊢; omega)) (fun j hj => by first | omega | exact False.elim hj | (dsimp only at hj ⊢; omega))
                try have e195 : (it189 489 0).toInt = (it128 489 0).toInt := congrArg Int32.toInt (hK191.2 0 (by first | decide | (dsimp only; decide) | omega | (dsimp only; omega))).2
                have PN196 : N9 lg188 it189 := N9_c hv76_2 (hK191.1 507 (by decide) (by first | decide | (dsimp only; decide) | omega | (dsimp only; omega))).1 (hK191.2 0 (by first | decide | (dsimp only; decide) | omega | (dsimp only; omega))).2
                have Pz29197 : ¬ lg188 489 29 = 0 := z_c (hv76_3) (hK191.2 29 (by first | decide | (dsimp only; decide) | omega | (dsimp only; omega))).1
                have Pz39198 : ¬ lg188 489 39 = 0 := z_c (hv76_4) (hK191.2 39 (by first | decide | (dsimp only; decide) | omega | (dsimp only; omega))).1
                have PQ199 : (¬ a1 = 0 → ¬ a1 = 9 → ¬ lg188 489 41 = 0) := fun h1 h2 => z_c (hv76_5 h1 h2) (hK191.2 41 (by first | decide | (dsimp only; decide) | omega | (dsimp only; omega))).1
                have PT200 : T9 lg188 it189 := ha194 hv76_1
                refine ⟨fun c153 => ?_, fun c153 => ?_⟩
                · try simp only [Int32.lt_iff_toInt_lt, Int32.le_iff_toInt_le, ← Int32.toInt_inj, Int32.toInt_toInt64, ti_m14, ti_m13, ti_m12, ti_m11, ti_m10, ti_m9, ti_m6, ti_m5, ti_m4, ti_m3, ti_m2, ti_m1, ti_0, ti_1, ti_2, ti_3, ti_4, ti_5, ti_6, ti_7, ti_8, ti_9, ti_10, ti_11, ti_12, ti_19, ti_20, ti_21, ti_44, ti_45, ti_48, ti_57, ti_59, ti_60, ti_98, ti_99, ti_100, ti_101, ti_103, ti_108, ti_110, ti_114, ti_127] at c153
                  subst hp
                  exact ⟨⟨hI190, hK192⟩, ⟨PT200, Pz29197⟩⟩
                · try simp only [Int32.lt_iff_toInt_lt, Int32.le_iff_toInt_le, ← Int32.toInt_inj, Int32.toInt_toInt64, ti_m14, ti_m13, ti_m12, ti_m11, ti_m10, ti_m9, ti_m6, ti_m5, ti_m4, ti_m3, ti_m2, ti_m1, ti_0, ti_1, ti_2, ti_3, ti_4, ti_5, ti_6, ti_7, ti_8, ti_9, ti_10, ti_11, ti_12, ti_19, ti_20, ti_21, ti_44, ti_45, ti_48, ti_57, ti_59, ti_60, ti_98, ti_99, ti_100, ti_101, ti_103, ti_108, ti_110, ti_114, ti_127] at c153
                  refine ⟨fun c159 => ?_, fun c159 => ?_⟩
                  · try simp only [Int32.lt_iff_toInt_lt, Int32.le_iff_toInt_le, ← Int32.toInt_inj, Int32.toInt_toInt64, ti_m14, ti_m13, ti_m12, ti_m11, ti_m10, ti_m9, ti_m6, ti_m5, ti_m4, ti_m3, ti_m2, ti_m1, ti_0, ti_1, ti_2, ti_3, ti_4, ti_5, ti_6, ti_7, ti_8, ti_9, ti_10, ti_11, ti_12, ti_19, ti_20, ti_21, ti_44, ti_45, ti_48, ti_57, ti_59, ti_60, ti_98, ti_99, ti_100, ti_101, ti_103, ti_108, ti_110, ti_114, ti_127] at c159
                    subst hp
                    exact ⟨⟨hI190, hK192⟩, ⟨PT200, Pz29197⟩⟩
                  · try simp only [Int32.lt_iff_toInt_lt, Int32.le_iff_toInt_le, ← Int32.toInt_inj, Int32.toInt_toInt64, ti_m14, ti_m13, ti_m12, ti_m11, ti_m10, ti_m9, ti_m6, ti_m5, ti_m4, ti_m3, ti_m2, ti_m1, ti_0, ti_1, ti_2, ti_3, ti_4, ti_5, ti_6, ti_7, ti_8, ti_9, ti_10, ti_11, ti_12, ti_19, ti_20, ti_21, ti_44, ti_45, ti_48, ti_57, ti_59, ti_60, ti_98, ti_99, ti_100, ti_101, ti_103, ti_108, ti_110, ti_114, ti_127] at c159
                    refine ⟨_, s_X9_becomes  (a1) ((lg188 489 40)) ((lg188 489 41)) hI190 (by first | omega | (constructor <;> first | decide | omega | ((try simp only [Int32.lt_iff_toInt_lt, Int32.le_iff_toInt_le, ← Int32.toInt_inj, Int32.toInt_toInt64, ti_m14, ti_m13, ti_m12, ti_m11, ti_m10, ti_m9, ti_m6, ti_m5, ti_m4, ti_m3, ti_m2, ti_m1, ti_0, ti_1, ti_2, ti_3, ti_4, ti_5, ti_6, ti_7, ti_8, ti_9, ti_10, ti_11, ti_12, ti_19, ti_20, ti_21, ti_44, ti_45, ti_48, ti_57, ti_59, ti_60, ti_98, ti_99, ti_100, ti_101, ti_103, ti_108, ti_110, ti_114, ti_127]); omega))) (PQ199 (fun q => absurd ((congrArg Int32.toInt q).trans ti_0) (by omega)) (fun q => absurd ((congrArg Int32.toInt q).trans ti_9) (by omega))), ?_⟩
                    intro lg202 it203 hq
                    obtain ⟨⟨hI204, hK205⟩, ha208⟩ := hq
                    have hK206 : Kd (fun j => j = 502 ∨ j = 503 ∨ j = 504 ∨ j = 505 ∨ j = 506 ∨ j = 507) (fun k => k = 18 ∨ k = 19 ∨ k = 20 ∨ k = 28 ∨ k = 29 ∨ k = 36 ∨ k = 37 ∨ k = 38 ∨ k = 39 ∨ k = 40 ∨ k = 41) lg0 it0 lg202 it203 := kd_t hK192 hK205 (fun j hj => by first | omega | exact False.elim hj | (dsimp only at hj ⊢; omega)) (fun j hj => by first | omega | exact False.elim hj | (dsimp only at hj ⊢; omega))
                    try have e209 : (it203 489 0).toInt = (it189 489 0).toInt := congrArg Int32.toInt (hK205.2 0 (by first | decide | (dsimp only; decide) | omega | (dsimp only; omega))).2
                    have PN210 : N9 lg202 it203 := N9_c PN196 (hK205.1 507 (by decide) (by first | decide | (dsimp only; decide) | omega | (dsimp only; omega))).1 (hK205.2 0 (by first | decide | (dsimp only; decide) | omega | (dsimp only; omega))).2
                    have Pz29211 : ¬ lg202 489 29 = 0 := z_c (Pz29197) (hK205.2 29 (by first | decide | (dsimp only; decide) | omega | (dsimp only; omega))).1
                    have Pz39212 : ¬ lg202 489 39 = 0 := z_c (Pz39198) (hK205.2 39 (by first | decide | (dsimp only; decide) | omega | (dsimp only; omega))).1
                    have PQ213 : (¬ a1 = 0 → ¬ a1 = 9 → ¬ lg202 489 41 = 0) := fun h1 h2 => z_c (PQ199 h1 h2) (hK205.2 41 (by first | decide | (dsimp only; decide) | omega | (dsimp only; omega))).1
                    have PT214 : T9 lg202 it203 := ha208 PT200
                    subst hp
                    exact ⟨⟨hI204, hK206⟩, ⟨PT214, Pz29211⟩⟩
            · try simp only [Int32.lt_iff_toInt_lt, Int32.le_iff_toInt_le, ← Int32.toInt_inj, Int32.toInt_toInt64, ti_m14, ti_m13, ti_m12, ti_m11, ti_m10, ti_m9, ti_m6, ti_m5, ti_m4, ti_m3, ti_m2, ti_m1, ti_0, ti_1, ti_2, ti_3, ti_4, ti_5, ti_6, ti_7, ti_8, ti_9, ti_10, ti_11, ti_12, ti_19, ti_20, ti_21, ti_44, ti_45, ti_48, ti_57, ti_59, ti_60, ti_98, ti_99, ti_100, ti_101, ti_103, ti_108, ti_110, ti_114, ti_127] at c81
              have hi216 : vp_in x2 6 := vp_of (by first | omega | ((try simp only [Int32.lt_iff_toInt_lt, Int32.le_iff_toInt_le, ← Int32.toInt_inj, Int32.toInt_toInt64, ti_m14, ti_m13, ti_m12, ti_m11, ti_m10, ti_m9, ti_m6, ti_m5, ti_m4, ti_m3, ti_m2, ti_m1, ti_0, ti_1, ti_2, ti_3, ti_4, ti_5, ti_6, ti_7, ti_8, ti_9, ti_10, ti_11, ti_12, ti_19, ti_20, ti_21, ti_44, ti_45, ti_48, ti_57, ti_59, ti_60, ti_98, ti_99, ti_100, ti_101, ti_103, ti_108, ti_110, ti_114, ti_127]); omega) | (split <;> omega)) (by first | omega | ((try simp only [Int32.lt_iff_toInt_lt, Int32.le_iff_toInt_le, ← Int32.toInt_inj, Int32.toInt_toInt64, ti_m14, ti_m13, ti_m12, ti_m11, ti_m10, ti_m9, ti_m6, ti_m5, ti_m4, ti_m3, ti_m2, ti_m1, ti_0, ti_1, ti_2, ti_3, ti_4, ti_5, ti_6, ti_7, ti_8, ti_9, ti_10, ti_11, ti_12, ti_19, ti_20, ti_21, ti_44, ti_45, ti_48, ti_57, ti_59, ti_60, ti_98, ti_99, ti_100, ti_101, ti_103, ti_108, ti_110, ti_114, ti_127]); omega) | (split <;> omega))
              refine ⟨hi216, ?_⟩
              have hz217 := vlt hi216
              have hi218 : vp_in x2 6 := vp_of (by first | omega | ((try simp only [Int32.lt_iff_toInt_lt, Int32.le_iff_toInt_le, ← Int32.toInt_inj, Int32.toInt_toInt64, ti_m14, ti_m13, ti_m12, ti_m11, ti_m10, ti_m9, ti_m6, ti_m5, ti_m4, ti_m3, ti_m2, ti_m1, ti_0, ti_1, ti_2, ti_3, ti_4, ti_5, ti_6, ti_7, ti_8, ti_9, ti_10, ti_11, ti_12, ti_19, ti_20, ti_21, ti_44, ti_45, ti_48, ti_57, ti_59, ti_60, ti_98, ti_99, ti_100, ti_101, ti_103, ti_108, ti_110, ti_114, ti_127]); omega) | (split <;> omega)) (by first | omega | ((try simp only [Int32.lt_iff_toInt_lt, Int32.le_iff_toInt_le, ← Int32.toInt_inj, Int32.toInt_toInt64, ti_m14, ti_m13, ti_m12, ti_m11, ti_m10, ti_m9, ti_m6, ti_m5, ti_m4, ti_m3, ti_m2, ti_m1, ti_0, ti_1, ti_2, ti_3, ti_4, ti_5, ti_6, ti_7, ti_8, ti_9, ti_10, ti_11, ti_12, ti_19, ti_20, ti_21, ti_44, ti_45, ti_48, ti_57, ti_59, ti_60, ti_98, ti_99, ti_100, ti_101, ti_103, ti_108, ti_110, ti_114, ti_127]); omega) | (split <;> omega))
              refine ⟨hi218, ?_⟩
              have hz219 := vlt hi218
              intro lg220 em221
              have hI222 : I9 lg220 it128 := by rw [em221]; exact i9_l hI125 (by decide) (by decide) (by decide)
              have hK223 : Kd (fun j => j = 502 ∨ j = 503 ∨ j = 504 ∨ j = 505 ∨ j = 506 ∨ j = 507) (fun k => k = 18 ∨ k = 19 ∨ k = 20 ∨ k = 28 ∨ k = 29 ∨ k = 36 ∨ k = 37 ∨ k = 38 ∨ k = 39 ∨ k = 40 ∨ k = 41) lg0 it0 lg220 it128 := by rw [em221]; exact kd_lr (by decide) (by first | decide | (dsimp only; decide) | omega | (dsimp only; omega)) hK126
              have PT224 : T9 lg220 it128 := T9_c hv76_1 (by rw [em221]; exact u2_row (by decide)) (by rw [em221]; exact u2_row (by decide)) rfl rfl
              have PN225 : N9 lg220 it128 := N9_c hv76_2 (by rw [em221]; exact u2_row (by decide)) rfl
              have Pz29226 : ¬ lg220 489 29 = 0 := z_c (hv76_3) (by rw [em221]; exact congrFun (u2_row (by decide)) 29)
              have Pz39227 : ¬ lg220 489 39 = 0 := z_c (hv76_4) (by rw [em221]; exact congrFun (u2_row (by decide)) 39)
              have PQ228 : (¬ a1 = 0 → ¬ a1 = 9 → ¬ lg220 489 41 = 0) := fun h1 h2 => z_c (hv76_5 h1 h2) (by rw [em221]; exact congrFun (u2_row (by decide)) 41)
              have hi229 : vp_in x2 6 := vp_of (by first | omega | ((try simp only [Int32.lt_iff_toInt_lt, Int32.le_iff_toInt_le, ← Int32.toInt_inj, Int32.toInt_toInt64, ti_m14, ti_m13, ti_m12, ti_m11, ti_m10, ti_m9, ti_m6, ti_m5, ti_m4, ti_m3, ti_m2, ti_m1, ti_0, ti_1, ti_2, ti_3, ti_4, ti_5, ti_6, ti_7, ti_8, ti_9, ti_10, ti_11, ti_12, ti_19, ti_20, ti_21, ti_44, ti_45, ti_48, ti_57, ti_59, ti_60, ti_98, ti_99, ti_100, ti_101, ti_103, ti_108, ti_110, ti_114, ti_127]); omega) | (split <;> omega)) (by first | omega | ((try simp only [Int32.lt_iff_toInt_lt, Int32.le_iff_toInt_le, ← Int32.toInt_inj, Int32.toInt_toInt64, ti_m14, ti_m13, ti_m12, ti_m11, ti_m10, ti_m9, ti_m6, ti_m5, ti_m4, ti_m3, ti_m2, ti_m1, ti_0, ti_1, ti_2, ti_3, ti_4, ti_5, ti_6, ti_7, ti_8, ti_9, ti_10, ti_11, ti_12, ti_19, ti_20, ti_21, ti_44, ti_45, ti_48, ti_57, ti_59, ti_60, ti_98, ti_99, ti_100, ti_101, ti_103, ti_108, ti_110, ti_114, ti_127]); omega) | (split <;> omega))
              refine ⟨hi229, ?_⟩
              have hz230 := vlt hi229
              have hi231 : vp_in x2 6 := vp_of (by first | omega | ((try simp only [Int32.lt_iff_toInt_lt, Int32.le_iff_toInt_le, ← Int32.toInt_inj, Int32.toInt_toInt64, ti_m14, ti_m13, ti_m12, ti_m11, ti_m10, ti_m9, ti_m6, ti_m5, ti_m4, ti_m3, ti_m2, ti_m1, ti_0, ti_1, ti_2, ti_3, ti_4, ti_5, ti_6, ti_7, ti_8, ti_9, ti_10, ti_11, ti_12, ti_19, ti_20, ti_21, ti_44, ti_45, ti_48, ti_57, ti_59, ti_60, ti_98, ti_99, ti_100, ti_101, ti_103, ti_108, ti_110, ti_114, ti_127]); omega) | (split <;> omega)) (by first | omega | ((try simp only [Int32.lt_iff_toInt_lt, Int32.le_iff_toInt_le, ← Int32.toInt_inj, Int32.toInt_toInt64, ti_m14, ti_m13, ti_m12, ti_m11, ti_m10, ti_m9, ti_m6, ti_m5, ti_m4, ti_m3, ti_m2, ti_m1, ti_0, ti_1, ti_2, ti_3, ti_4, ti_5, ti_6, ti_7, ti_8, ti_9, ti_10, ti_11, ti_12, ti_19, ti_20, ti_21, ti_44, ti_45, ti_48, ti_57, ti_59, ti_60, ti_98, ti_99, ti_100, ti_101, ti_103, ti_108, ti_110, ti_114, ti_127]); omega) | (split <;> omega))
              refine ⟨hi231, ?_⟩
              have hz232 := vlt hi231
              intro lg233 em234
              have hI235 : I9 lg233 it128 := by rw [em234]; exact i9_l hI222 (by decide) (by decide) (by decide)
              have hK236 : Kd (fun j => j = 502 ∨ j = 503 ∨ j = 504 ∨ j = 505 ∨ j = 506 ∨ j = 507) (fun k => k = 18 ∨ k = 19 ∨ k = 20 ∨ k = 28 ∨ k = 29 ∨ k = 36 ∨ k = 37 ∨ k = 38 ∨ k = 39 ∨ k = 40 ∨ k = 41) lg0 it0 lg233 it128 := by rw [em234]; exact kd_lr (by decide) (by first | decide | (dsimp only; decide) | omega | (dsimp only; omega)) hK223
              have PN237 : N9 lg233 it128 := N9_c PN225 (by rw [em234]; exact u2_row (by decide)) rfl
              have Pz29238 : ¬ lg233 489 29 = 0 := z_c (Pz29226) (by rw [em234]; exact congrFun (u2_row (by decide)) 29)
              have Pz39239 : ¬ lg233 489 39 = 0 := z_c (Pz39227) (by rw [em234]; exact congrFun (u2_row (by decide)) 39)
              have PQ240 : (¬ a1 = 0 → ¬ a1 = 9 → ¬ lg233 489 41 = 0) := fun h1 h2 => z_c (PQ228 h1 h2) (by rw [em234]; exact congrFun (u2_row (by decide)) 41)
              have PT241 : T9 lg233 it128 := by rw [em234]; exact T9_w (Or.inl rfl) PT224 ((PN225 (x2).toNatClampNeg (by have z1 := cl32 (i := x2) (by omega); omega) (by have z1 := cl32 (i := x2) (by omega); omega)))
              try have f242 : ((x2 + 1) : Int32).toInt = (x2).toInt + 1 := ad32 (a := (x2).toInt) (b := 1) (rfl) (ti_1) (by omega) (by omega)
              exact ih76 ((x2 + 1)) _ _ hI235 hK236 (by refine ⟨?_, ?_, ?_, ?_, ?_, ?_, ?_⟩ <;> first | exact Nx_0 | omega | assumption | exact Or.inl rfl | exact Or.inr rfl | exact i8_1 (by assumption) (by assumption) | decide) (by omega)
        have t243 := ti_0
        exact ⟨_, lp76 ((7 - ((0 : Int32)).toInt).toNat + 1) ((0 : Int32)) _ _ hI115 hK116 (by refine ⟨?_, ?_, ?_, ?_, ?_, ?_, ?_⟩ <;> first | exact Nx_0 | omega | assumption | exact Or.inl rfl | exact Or.inr rfl | exact i8_1 (by assumption) (by assumption) | decide) (Nat.lt_succ_self _)⟩
      · try simp only [Int32.lt_iff_toInt_lt, Int32.le_iff_toInt_le, ← Int32.toInt_inj, Int32.toInt_toInt64, ti_m14, ti_m13, ti_m12, ti_m11, ti_m10, ti_m9, ti_m6, ti_m5, ti_m4, ti_m3, ti_m2, ti_m1, ti_0, ti_1, ti_2, ti_3, ti_4, ti_5, ti_6, ti_7, ti_8, ti_9, ti_10, ti_11, ti_12, ti_19, ti_20, ti_21, ti_44, ti_45, ti_48, ti_57, ti_59, ti_60, ti_98, ti_99, ti_100, ti_101, ti_103, ti_108, ti_110, ti_114, ti_127] at c54
        subst hp
        exact ⟨⟨hI88, hK90⟩, ⟨PT94, Pz2995⟩⟩
    · try simp only [Int32.lt_iff_toInt_lt, Int32.le_iff_toInt_le, ← Int32.toInt_inj, Int32.toInt_toInt64, ti_m14, ti_m13, ti_m12, ti_m11, ti_m10, ti_m9, ti_m6, ti_m5, ti_m4, ti_m3, ti_m2, ti_m1, ti_0, ti_1, ti_2, ti_3, ti_4, ti_5, ti_6, ti_7, ti_8, ti_9, ti_10, ti_11, ti_12, ti_19, ti_20, ti_21, ti_44, ti_45, ti_48, ti_57, ti_59, ti_60, ti_98, ti_99, ti_100, ti_101, ti_103, ti_108, ti_110, ti_114, ti_127] at c23
      have f244 : 0 ≤ (it74 489 0).toInt ∧ (it74 489 0).toInt ≤ 6 := i9_f hI75 (j := 489) (k := 0) rfl
      try have f245 : (((it74 489 0) - 1) : Int32).toInt = ((it74 489 0)).toInt - 1 := sb32 (a := ((it74 489 0)).toInt) (b := 1) (rfl) (ti_1) (by omega) (by omega)
      refine ⟨_, s_X9_turnsBack  (((it74 489 0) - 1)) ((it74 489 32)) hI75 (PT81) (by first | omega | (constructor <;> first | omega | ((try simp only [Int32.lt_iff_toInt_lt, Int32.le_iff_toInt_le, ← Int32.toInt_inj, Int32.toInt_toInt64, ti_m14, ti_m13, ti_m12, ti_m11, ti_m10, ti_m9, ti_m6, ti_m5, ti_m4, ti_m3, ti_m2, ti_m1, ti_0, ti_1, ti_2, ti_3, ti_4, ti_5, ti_6, ti_7, ti_8, ti_9, ti_10, ti_11, ti_12, ti_19, ti_20, ti_21, ti_44, ti_45, ti_48, ti_57, ti_59, ti_60, ti_98, ti_99, ti_100, ti_101, ti_103, ti_108, ti_110, ti_114, ti_127]); omega))), ?_⟩
      intro lg246 it247 hq
      obtain ⟨⟨hI248, hK249⟩, ha252⟩ := hq
      have hK250 : Kd (fun j => j = 502 ∨ j = 503 ∨ j = 504 ∨ j = 505 ∨ j = 506 ∨ j = 507) (fun k => k = 18 ∨ k = 19 ∨ k = 20 ∨ k = 28 ∨ k = 29 ∨ k = 36 ∨ k = 37 ∨ k = 38 ∨ k = 39 ∨ k = 40 ∨ k = 41) lg0 it0 lg246 it247 := kd_t hK77 hK249 (fun j hj => by first | omega | exact False.elim hj | (dsimp only at hj ⊢; omega)) (fun j hj => by first | omega | exact False.elim hj | (dsimp only at hj ⊢; omega))
      try have e253 : (it247 489 0).toInt = (it74 489 0).toInt := congrArg Int32.toInt (hK249.2 0 (by first | decide | (dsimp only; decide) | omega | (dsimp only; omega))).2
      try have e254 : (it247 489 32).toInt = (it74 489 32).toInt := congrArg Int32.toInt (hK249.2 32 (by first | decide | (dsimp only; decide) | omega | (dsimp only; omega))).2
      have PT255 : T9 lg246 it247 := T9_c PT81 (hK249.1 503 (by decide) (by first | decide | (dsimp only; decide) | omega | (dsimp only; omega))).1 (hK249.1 505 (by decide) (by first | decide | (dsimp only; decide) | omega | (dsimp only; omega))).1 (hK249.1 501 (by decide) (by first | decide | (dsimp only; decide) | omega | (dsimp only; omega))).2 (hK249.2 0 (by first | decide | (dsimp only; decide) | omega | (dsimp only; omega))).2
      have Pz29256 : ¬ lg246 489 29 = 0 := z_c (Pz2982) (hK249.2 29 (by first | decide | (dsimp only; decide) | omega | (dsimp only; omega))).1
      have Pz35257 : ¬ lg246 489 35 = 0 := z_c (Pz3583) (hK249.2 35 (by first | decide | (dsimp only; decide) | omega | (dsimp only; omega))).1
      have Pz37258 : ¬ lg246 489 37 = 0 := z_c (ha79.1) (hK249.2 37 (by first | decide | (dsimp only; decide) | omega | (dsimp only; omega))).1
      have PN259 : N9 lg246 it247 := N9_c ha79.2 (hK249.1 507 (by decide) (by first | decide | (dsimp only; decide) | omega | (dsimp only; omega))).1 (hK249.2 0 (by first | decide | (dsimp only; decide) | omega | (dsimp only; omega))).2
      have PQ260 : (¬ a1 = 0 → ¬ a1 = 9 → ¬ lg246 489 41 = 0) := fun h1 h2 => by
        have q1 : ¬ a1.toInt = 0 := fun q => h1 (Int32.toInt_inj.mp (q.trans ti_0.symm))
        have q2 : ¬ a1.toInt = 9 := fun q => h2 (Int32.toInt_inj.mp (q.trans ti_9.symm))
        omega
      unfold w_X9_does_b50
      have f261 : 0 ≤ (it247 489 20).toInt ∧ (it247 489 20).toInt ≤ 1 := i9_f hI248 (j := 489) (k := 20) rfl
      refine ⟨fun c54 => ?_, fun c54 => ?_⟩
      · try simp only [Int32.lt_iff_toInt_lt, Int32.le_iff_toInt_le, ← Int32.toInt_inj, Int32.toInt_toInt64, ti_m14, ti_m13, ti_m12, ti_m11, ti_m10, ti_m9, ti_m6, ti_m5, ti_m4, ti_m3, ti_m2, ti_m1, ti_0, ti_1, ti_2, ti_3, ti_4, ti_5, ti_6, ti_7, ti_8, ti_9, ti_10, ti_11, ti_12, ti_19, ti_20, ti_21, ti_44, ti_45, ti_48, ti_57, ti_59, ti_60, ti_98, ti_99, ti_100, ti_101, ti_103, ti_108, ti_110, ti_114, ti_127] at c54
        intro lg262 em263
        have hI264 : I9 lg262 it247 := by rw [em263]; exact i9_l hI248 (by decide) (by decide) (by decide)
        have hK265 : Kd (fun j => j = 502 ∨ j = 503 ∨ j = 504 ∨ j = 505 ∨ j = 506 ∨ j = 507) (fun k => k = 18 ∨ k = 19 ∨ k = 20 ∨ k = 28 ∨ k = 29 ∨ k = 36 ∨ k = 37 ∨ k = 38 ∨ k = 39 ∨ k = 40 ∨ k = 41) lg0 it0 lg262 it247 := by rw [em263]; exact kd_lf (by first | decide | (dsimp only; decide) | omega | (dsimp only; omega)) hK250
        have PT266 : T9 lg262 it247 := T9_c PT255 (by rw [em263]; exact u2_row (by decide)) (by rw [em263]; exact u2_row (by decide)) rfl rfl
        have Pz29267 : ¬ lg262 489 29 = 0 := z_c (Pz29256) (by rw [em263]; exact u2_ne (by decide))
        have Pz35268 : ¬ lg262 489 35 = 0 := z_c (Pz35257) (by rw [em263]; exact u2_ne (by decide))
        have Pz37269 : ¬ lg262 489 37 = 0 := z_c (Pz37258) (by rw [em263]; exact u2_ne (by decide))
        have PN270 : N9 lg262 it247 := N9_c PN259 (by rw [em263]; exact u2_row (by decide)) rfl
        have Pz39271 : ¬ lg262 489 39 = 0 := z_c (ha252) (by rw [em263]; exact u2_ne (by decide))
        have PQ272 : (¬ a1 = 0 → ¬ a1 = 9 → ¬ lg262 489 41 = 0) := fun h1 h2 => z_c (PQ260 h1 h2) (by rw [em263]; exact u2_ne (by decide))
        intro lg273 em274
        have hI275 : I9 lg273 it247 := by rw [em274]; exact i9_l hI264 (by decide) (by decide) (by decide)
        have hK276 : Kd (fun j => j = 502 ∨ j = 503 ∨ j = 504 ∨ j = 505 ∨ j = 506 ∨ j = 507) (fun k => k = 18 ∨ k = 19 ∨ k = 20 ∨ k = 28 ∨ k = 29 ∨ k = 36 ∨ k = 37 ∨ k = 38 ∨ k = 39 ∨ k = 40 ∨ k = 41) lg0 it0 lg273 it247 := by rw [em274]; exact kd_lf (by first | decide | (dsimp only; decide) | omega | (dsimp only; omega)) hK265
        have PT277 : T9 lg273 it247 := T9_c PT266 (by rw [em274]; exact u2_row (by decide)) (by rw [em274]; exact u2_row (by decide)) rfl rfl
        have Pz35278 : ¬ lg273 489 35 = 0 := z_c (Pz35268) (by rw [em274]; exact u2_ne (by decide))
        have Pz37279 : ¬ lg273 489 37 = 0 := z_c (Pz37269) (by rw [em274]; exact u2_ne (by decide))
        have PN280 : N9 lg273 it247 := N9_c PN270 (by rw [em274]; exact u2_row (by decide)) rfl
        have Pz39281 : ¬ lg273 489 39 = 0 := z_c (Pz39271) (by rw [em274]; exact u2_ne (by decide))
        have PQ282 : (¬ a1 = 0 → ¬ a1 = 9 → ¬ lg273 489 41 = 0) := fun h1 h2 => z_c (PQ272 h1 h2) (by rw [em274]; exact u2_ne (by decide))
        have Pz283 : ¬ lg273 489 29 = 0 := by rw [em274, u2_eq]; exact Pz37269
        have lp76 : ∀ (n : Nat) (x2 : Int32) (lg : LGt) (it : ITt), I9 lg it → Kd (fun j => j = 502 ∨ j = 503 ∨ j = 504 ∨ j = 505 ∨ j = 506 ∨ j = 507) (fun k => k = 18 ∨ k = 19 ∨ k = 20 ∨ k = 28 ∨ k = 29 ∨ k = 36 ∨ k = 37 ∨ k = 38 ∨ k = 39 ∨ k = 40 ∨ k = 41) lg0 it0 lg it → ((0 ≤ (x2).toInt) ∧ (T9 lg it) ∧ (N9 lg it) ∧ (¬ lg 489 29 = 0) ∧ (¬ lg 489 39 = 0) ∧ ((¬ a1 = 0 → ¬ a1 = 9 → ¬ lg 489 41 = 0)) ∧ ((it 489 0).toInt = (it0 489 0).toInt)) → (7 - (x2).toInt).toNat < n → w_X9_does_b76 a1 Pz  n x2 lg it := by
          intro n76
          induction n76 with
          | zero => intro x2 lg it _ _ _ hn; exact absurd hn (Nat.not_lt_zero _)
          | succ n76 ih76 =>
            intro x2 lg286 it287 hI284 hK285 hv hn
            unfold w_X9_does_b76
            obtain ⟨hv76_0, hv76_1, hv76_2, hv76_3, hv76_4, hv76_5, hv76_6⟩ := hv
            have f288 : 0 ≤ (it287 489 0).toInt ∧ (it287 489 0).toInt ≤ 6 := i9_f hI284 (j := 489) (k := 0) rfl
            refine ⟨fun c81 => ?_, fun c81 => ?_⟩
            · try simp only [Int32.lt_iff_toInt_lt, Int32.le_iff_toInt_le, ← Int32.toInt_inj, Int32.toInt_toInt64, ti_m14, ti_m13, ti_m12, ti_m11, ti_m10, ti_m9, ti_m6, ti_m5, ti_m4, ti_m3, ti_m2, ti_m1, ti_0, ti_1, ti_2, ti_3, ti_4, ti_5, ti_6, ti_7, ti_8, ti_9, ti_10, ti_11, ti_12, ti_19, ti_20, ti_21, ti_44, ti_45, ti_48, ti_57, ti_59, ti_60, ti_98, ti_99, ti_100, ti_101, ti_103, ti_108, ti_110, ti_114, ti_127] at c81
              refine ⟨fun c116 => ?_, fun c116 => ?_⟩
              · try simp only [Int32.lt_iff_toInt_lt, Int32.le_iff_toInt_le, ← Int32.toInt_inj, Int32.toInt_toInt64, ti_m14, ti_m13, ti_m12, ti_m11, ti_m10, ti_m9, ti_m6, ti_m5, ti_m4, ti_m3, ti_m2, ti_m1, ti_0, ti_1, ti_2, ti_3, ti_4, ti_5, ti_6, ti_7, ti_8, ti_9, ti_10, ti_11, ti_12, ti_19, ti_20, ti_21, ti_44, ti_45, ti_48, ti_57, ti_59, ti_60, ti_98, ti_99, ti_100, ti_101, ti_103, ti_108, ti_110, ti_114, ti_127] at c116
                refine ⟨fun c126 => ?_, fun c126 => ?_⟩
                · try simp only [Int32.lt_iff_toInt_lt, Int32.le_iff_toInt_le, ← Int32.toInt_inj, Int32.toInt_toInt64, ti_m14, ti_m13, ti_m12, ti_m11, ti_m10, ti_m9, ti_m6, ti_m5, ti_m4, ti_m3, ti_m2, ti_m1, ti_0, ti_1, ti_2, ti_3, ti_4, ti_5, ti_6, ti_7, ti_8, ti_9, ti_10, ti_11, ti_12, ti_19, ti_20, ti_21, ti_44, ti_45, ti_48, ti_57, ti_59, ti_60, ti_98, ti_99, ti_100, ti_101, ti_103, ti_108, ti_110, ti_114, ti_127] at c126
                  try have f289 : ((a1 - 1) : Int32).toInt = (a1).toInt - 1 := sb32 (a := (a1).toInt) (b := 1) (rfl) (ti_1) (by omega) (by omega)
                  unfold w_X9_does_b141
                  refine ⟨_, s_X9_becomes  ((a1 - 1)) ((lg286 489 38)) ((lg286 489 39)) hI284 (by first | omega | (constructor <;> first | decide | omega | ((try simp only [Int32.lt_iff_toInt_lt, Int32.le_iff_toInt_le, ← Int32.toInt_inj, Int32.toInt_toInt64, ti_m14, ti_m13, ti_m12, ti_m11, ti_m10, ti_m9, ti_m6, ti_m5, ti_m4, ti_m3, ti_m2, ti_m1, ti_0, ti_1, ti_2, ti_3, ti_4, ti_5, ti_6, ti_7, ti_8, ti_9, ti_10, ti_11, ti_12, ti_19, ti_20, ti_21, ti_44, ti_45, ti_48, ti_57, ti_59, ti_60, ti_98, ti_99, ti_100, ti_101, ti_103, ti_108, ti_110, ti_114, ti_127]); omega))) (by assumption), ?_⟩
                  intro lg290 it291 hq
                  obtain ⟨⟨hI292, hK293⟩, ha296⟩ := hq
                  have hK294 : Kd (fun j => j = 502 ∨ j = 503 ∨ j = 504 ∨ j = 505 ∨ j = 506 ∨ j = 507) (fun k => k = 18 ∨ k = 19 ∨ k = 20 ∨ k = 28 ∨ k = 29 ∨ k = 36 ∨ k = 37 ∨ k = 38 ∨ k = 39 ∨ k = 40 ∨ k = 41) lg0 it0 lg290 it291 := kd_t hK285 hK293 (fun j hj => by first | omega | exact False.elim hj | (dsimp only at hj ⊢; omega)) (fun j hj => by first | omega | exact False.elim hj | (dsimp only at hj ⊢; omega))
                  try have e297 : (it291 489 0).toInt = (it287 489 0).toInt := congrArg Int32.toInt (hK293.2 0 (by first | decide | (dsimp only; decide) | omega | (dsimp only; omega))).2
                  have PN298 : N9 lg290 it291 := N9_c hv76_2 (hK293.1 507 (by decide) (by first | decide | (dsimp only; decide) | omega | (dsimp only; omega))).1 (hK293.2 0 (by first | decide | (dsimp only; decide) | omega | (dsimp only; omega))).2
                  have Pz29299 : ¬ lg290 489 29 = 0 := z_c (hv76_3) (hK293.2 29 (by first | decide | (dsimp only; decide) | omega | (dsimp only; omega))).1
                  have Pz39300 : ¬ lg290 489 39 = 0 := z_c (hv76_4) (hK293.2 39 (by first | decide | (dsimp only; decide) | omega | (dsimp only; omega))).1
                  have PQ301 : (¬ a1 = 0 → ¬ a1 = 9 → ¬ lg290 489 41 = 0) := fun h1 h2 => z_c (hv76_5 h1 h2) (hK293.2 41 (by first | decide | (dsimp only; decide) | omega | (dsimp only; omega))).1
                  have PT302 : T9 lg290 it291 := ha296 hv76_1
                  refine ⟨fun c153 => ?_, fun c153 => ?_⟩
                  · try simp only [Int32.lt_iff_toInt_lt, Int32.le_iff_toInt_le, ← Int32.toInt_inj, Int32.toInt_toInt64, ti_m14, ti_m13, ti_m12, ti_m11, ti_m10, ti_m9, ti_m6, ti_m5, ti_m4, ti_m3, ti_m2, ti_m1, ti_0, ti_1, ti_2, ti_3, ti_4, ti_5, ti_6, ti_7, ti_8, ti_9, ti_10, ti_11, ti_12, ti_19, ti_20, ti_21, ti_44, ti_45, ti_48, ti_57, ti_59, ti_60, ti_98, ti_99, ti_100, ti_101, ti_103, ti_108, ti_110, ti_114, ti_127] at c153
                    subst hp
                    exact ⟨⟨hI292, hK294⟩, ⟨PT302, Pz29299⟩⟩
                  · try simp only [Int32.lt_iff_toInt_lt, Int32.le_iff_toInt_le, ← Int32.toInt_inj, Int32.toInt_toInt64, ti_m14, ti_m13, ti_m12, ti_m11, ti_m10, ti_m9, ti_m6, ti_m5, ti_m4, ti_m3, ti_m2, ti_m1, ti_0, ti_1, ti_2, ti_3, ti_4, ti_5, ti_6, ti_7, ti_8, ti_9, ti_10, ti_11, ti_12, ti_19, ti_20, ti_21, ti_44, ti_45, ti_48, ti_57, ti_59, ti_60, ti_98, ti_99, ti_100, ti_101, ti_103, ti_108, ti_110, ti_114, ti_127] at c153
                    refine ⟨fun c159 => ?_, fun c159 => ?_⟩
                    · try simp only [Int32.lt_iff_toInt_lt, Int32.le_iff_toInt_le, ← Int32.toInt_inj, Int32.toInt_toInt64, ti_m14, ti_m13, ti_m12, ti_m11, ti_m10, ti_m9, ti_m6, ti_m5, ti_m4, ti_m3, ti_m2, ti_m1, ti_0, ti_1, ti_2, ti_3, ti_4, ti_5, ti_6, ti_7, ti_8, ti_9, ti_10, ti_11, ti_12, ti_19, ti_20, ti_21, ti_44, ti_45, ti_48, ti_57, ti_59, ti_60, ti_98, ti_99, ti_100, ti_101, ti_103, ti_108, ti_110, ti_114, ti_127] at c159
                      subst hp
                      exact ⟨⟨hI292, hK294⟩, ⟨PT302, Pz29299⟩⟩
                    · try simp only [Int32.lt_iff_toInt_lt, Int32.le_iff_toInt_le, ← Int32.toInt_inj, Int32.toInt_toInt64, ti_m14, ti_m13, ti_m12, ti_m11, ti_m10, ti_m9, ti_m6, ti_m5, ti_m4, ti_m3, ti_m2, ti_m1, ti_0, ti_1, ti_2, ti_3, ti_4, ti_5, ti_6, ti_7, ti_8, ti_9, ti_10, ti_11, ti_12, ti_19, ti_20, ti_21, ti_44, ti_45, ti_48, ti_57, ti_59, ti_60, ti_98, ti_99, ti_100, ti_101, ti_103, ti_108, ti_110, ti_114, ti_127] at c159
                      refine ⟨_, s_X9_becomes  (a1) ((lg290 489 40)) ((lg290 489 41)) hI292 (by first | omega | (constructor <;> first | decide | omega | ((try simp only [Int32.lt_iff_toInt_lt, Int32.le_iff_toInt_le, ← Int32.toInt_inj, Int32.toInt_toInt64, ti_m14, ti_m13, ti_m12, ti_m11, ti_m10, ti_m9, ti_m6, ti_m5, ti_m4, ti_m3, ti_m2, ti_m1, ti_0, ti_1, ti_2, ti_3, ti_4, ti_5, ti_6, ti_7, ti_8, ti_9, ti_10, ti_11, ti_12, ti_19, ti_20, ti_21, ti_44, ti_45, ti_48, ti_57, ti_59, ti_60, ti_98, ti_99, ti_100, ti_101, ti_103, ti_108, ti_110, ti_114, ti_127]); omega))) (PQ301 (fun q => absurd ((congrArg Int32.toInt q).trans ti_0) (by omega)) (fun q => absurd ((congrArg Int32.toInt q).trans ti_9) (by omega))), ?_⟩
                      intro lg304 it305 hq
                      obtain ⟨⟨hI306, hK307⟩, ha310⟩ := hq
                      have hK308 : Kd (fun j => j = 502 ∨ j = 503 ∨ j = 504 ∨ j = 505 ∨ j = 506 ∨ j = 507) (fun k => k = 18 ∨ k = 19 ∨ k = 20 ∨ k = 28 ∨ k = 29 ∨ k = 36 ∨ k = 37 ∨ k = 38 ∨ k = 39 ∨ k = 40 ∨ k = 41) lg0 it0 lg304 it305 := kd_t hK294 hK307 (fun j hj => by first | omega | exact False.elim hj | (dsimp only at hj ⊢; omega)) (fun j hj => by first | omega | exact False.elim hj | (dsimp only at hj ⊢; omega))
                      try have e311 : (it305 489 0).toInt = (it291 489 0).toInt := congrArg Int32.toInt (hK307.2 0 (by first | decide | (dsimp only; decide) | omega | (dsimp only; omega))).2
                      have PN312 : N9 lg304 it305 := N9_c PN298 (hK307.1 507 (by decide) (by first | decide | (dsimp only; decide) | omega | (dsimp only; omega))).1 (hK307.2 0 (by first | decide | (dsimp only; decide) | omega | (dsimp only; omega))).2
                      have Pz29313 : ¬ lg304 489 29 = 0 := z_c (Pz29299) (hK307.2 29 (by first | decide | (dsimp only; decide) | omega | (dsimp only; omega))).1
                      have Pz39314 : ¬ lg304 489 39 = 0 := z_c (Pz39300) (hK307.2 39 (by first | decide | (dsimp only; decide) | omega | (dsimp only; omega))).1
                      have PQ315 : (¬ a1 = 0 → ¬ a1 = 9 → ¬ lg304 489 41 = 0) := fun h1 h2 => z_c (PQ301 h1 h2) (hK307.2 41 (by first | decide | (dsimp only; decide) | omega | (dsimp only; omega))).1
                      have PT316 : T9 lg304 it305 := ha310 PT302
                      subst hp
                      exact ⟨⟨hI306, hK308⟩, ⟨PT316, Pz29313⟩⟩
                · try simp only [Int32.lt_iff_toInt_lt, Int32.le_iff_toInt_le, ← Int32.toInt_inj, Int32.toInt_toInt64, ti_m14, ti_m13, ti_m12, ti_m11, ti_m10, ti_m9, ti_m6, ti_m5, ti_m4, ti_m3, ti_m2, ti_m1, ti_0, ti_1, ti_2, ti_3, ti_4, ti_5, ti_6, ti_7, ti_8, ti_9, ti_10, ti_11, ti_12, ti_19, ti_20, ti_21, ti_44, ti_45, ti_48, ti_57, ti_59, ti_60, ti_98, ti_99, ti_100, ti_101, ti_103, ti_108, ti_110, ti_114, ti_127] at c126
                  try have f318 : (((it287 489 0) - 1) : Int32).toInt = ((it287 489 0)).toInt - 1 := sb32 (a := ((it287 489 0)).toInt) (b := 1) (rfl) (ti_1) (by omega) (by omega)
                  unfold w_X9_does_b141
                  refine ⟨_, s_X9_becomes  (((it287 489 0) - 1)) ((lg286 489 38)) ((lg286 489 39)) hI284 (by first | omega | (constructor <;> first | decide | omega | ((try simp only [Int32.lt_iff_toInt_lt, Int32.le_iff_toInt_le, ← Int32.toInt_inj, Int32.toInt_toInt64, ti_m14, ti_m13, ti_m12, ti_m11, ti_m10, ti_m9, ti_m6, ti_m5, ti_m4, ti_m3, ti_m2, ti_m1, ti_0, ti_1, ti_2, ti_3, ti_4, ti_5, ti_6, ti_7, ti_8, ti_9, ti_10, ti_11, ti_12, ti_19, ti_20, ti_21, ti_44, ti_45, ti_48, ti_57, ti_59, ti_60, ti_98, ti_99, ti_100, ti_101, ti_103, ti_108, ti_110, ti_114, ti_127]); omega))) (by assumption), ?_⟩
                  intro lg319 it320 hq
                  obtain ⟨⟨hI321, hK322⟩, ha325⟩ := hq
                  have hK323 : Kd (fun j => j = 502 ∨ j = 503 ∨ j = 504 ∨ j = 505 ∨ j = 506 ∨ j = 507) (fun k => k = 18 ∨ k = 19 ∨ k = 20 ∨ k = 28 ∨ k = 29 ∨ k = 36 ∨ k = 37 ∨ k = 38 ∨ k = 39 ∨ k = 40 ∨ k = 41) lg0 it0 lg319 it320 := kd_t hK285 hK322 (fun j hj => by first | omega | exact False.elim hj | (dsimp only at hj ⊢; omega)) (fun j hj => by first | omega | exact False.elim hj | (dsimp only at hj ⊢; omega))
                  try have e326 : (it320 489 0).toInt = (it287 489 0).toInt := congrArg Int32.toInt (hK322.2 0 (by first | decide | (dsimp only; decide) | omega | (dsimp only; omega))).2
                  have PN327 : N9 lg319 it320 := N9_c hv76_2 (hK322.1 507 (by decide) (by first | decide | (dsimp only; decide) | omega | (dsimp only; omega))).1 (hK322.2 0 (by first | decide | (dsimp only; decide) | omega | (dsimp only; omega))).2
                  have Pz29328 : ¬ lg319 489 29 = 0 := z_c (hv76_3) (hK322.2 29 (by first | decide | (dsimp only; decide) | omega | (dsimp only; omega))).1
                  have Pz39329 : ¬ lg319 489 39 = 0 := z_c (hv76_4) (hK322.2 39 (by first | decide | (dsimp only; decide) | omega | (dsimp only; omega))).1
                  have PQ330 : (¬ a1 = 0 → ¬ a1 = 9 → ¬ lg319 489 41 = 0) := fun h1 h2 => z_c (hv76_5 h1 h2) (hK322.2 41 (by first | decide | (dsimp only; decide) | omega | (dsimp only; omega))).1
                  have PT331 : T9 lg319 it320 := ha325 hv76_1
                  refine ⟨fun c153 => ?_, fun c153 => ?_⟩
                  · try simp only [Int32.lt_iff_toInt_lt, Int32.le_iff_toInt_le, ← Int32.toInt_inj, Int32.toInt_toInt64, ti_m14, ti_m13, ti_m12, ti_m11, ti_m10, ti_m9, ti_m6, ti_m5, ti_m4, ti_m3, ti_m2, ti_m1, ti_0, ti_1, ti_2, ti_3, ti_4, ti_5, ti_6, ti_7, ti_8, ti_9, ti_10, ti_11, ti_12, ti_19, ti_20, ti_21, ti_44, ti_45, ti_48, ti_57, ti_59, ti_60, ti_98, ti_99, ti_100, ti_101, ti_103, ti_108, ti_110, ti_114, ti_127] at c153
                    subst hp
                    exact ⟨⟨hI321, hK323⟩, ⟨PT331, Pz29328⟩⟩
                  · try simp only [Int32.lt_iff_toInt_lt, Int32.le_iff_toInt_le, ← Int32.toInt_inj, Int32.toInt_toInt64, ti_m14, ti_m13, ti_m12, ti_m11, ti_m10, ti_m9, ti_m6, ti_m5, ti_m4, ti_m3, ti_m2, ti_m1, ti_0, ti_1, ti_2, ti_3, ti_4, ti_5, ti_6, ti_7, ti_8, ti_9, ti_10, ti_11, ti_12, ti_19, ti_20, ti_21, ti_44, ti_45, ti_48, ti_57, ti_59, ti_60, ti_98, ti_99, ti_100, ti_101, ti_103, ti_108, ti_110, ti_114, ti_127] at c153
                    refine ⟨fun c159 => ?_, fun c159 => ?_⟩
                    · try simp only [Int32.lt_iff_toInt_lt, Int32.le_iff_toInt_le, ← Int32.toInt_inj, Int32.toInt_toInt64, ti_m14, ti_m13, ti_m12, ti_m11, ti_m10, ti_m9, ti_m6, ti_m5, ti_m4, ti_m3, ti_m2, ti_m1, ti_0, ti_1, ti_2, ti_3, ti_4, ti_5, ti_6, ti_7, ti_8, ti_9, ti_10, ti_11, ti_12, ti_19, ti_20, ti_21, ti_44, ti_45, ti_48, ti_57, ti_59, ti_60, ti_98, ti_99, ti_100, ti_101, ti_103, ti_108, ti_110, ti_114, ti_127] at c159
                      subst hp
                      exact ⟨⟨hI321, hK323⟩, ⟨PT331, Pz29328⟩⟩
                    · try simp only [Int32.lt_iff_toInt_lt, Int32.le_iff_toInt_le, ← Int32.toInt_inj, Int32.toInt_toInt64, ti_m14, ti_m13, ti_m12, ti_m11, ti_m10, ti_m9, ti_m6, ti_m5, ti_m4, ti_m3, ti_m2, ti_m1, ti_0, ti_1, ti_2, ti_3, ti_4, ti_5, ti_6, ti_7, ti_8, ti_9, ti_10, ti_11, ti_12, ti_19, ti_20, ti_21, ti_44, ti_45, ti_48, ti_57, ti_59, ti_60, ti_98, ti_99, ti_100, ti_101, ti_103, ti_108, ti_110, ti_114, ti_127] at c159
                      refine ⟨_, s_X9_becomes  (a1) ((lg319 489 40)) ((lg319 489 41)) hI321 (by first | omega | (constructor <;> first | decide | omega | ((try simp only [Int32.lt_iff_toInt_lt, Int32.le_iff_toInt_le, ← Int32.toInt_inj, Int32.toInt_toInt64, ti_m14, ti_m13, ti_m12, ti_m11, ti_m10, ti_m9, ti_m6, ti_m5, ti_m4, ti_m3, ti_m2, ti_m1, ti_0, ti_1, ti_2, ti_3, ti_4, ti_5, ti_6, ti_7, ti_8, ti_9, ti_10, ti_11, ti_12, ti_19, ti_20, ti_21, ti_44, ti_45, ti_48, ti_57, ti_59, ti_60, ti_98, ti_99, ti_100, ti_101, ti_103, ti_108, ti_110, ti_114, ti_127]); omega))) (PQ330 (fun q => absurd ((congrArg Int32.toInt q).trans ti_0) (by omega)) (fun q => absurd ((congrArg Int32.toInt q).trans ti_9) (by omega))), ?_⟩
                      intro lg333 it334 hq
                      obtain ⟨⟨hI335, hK336⟩, ha339⟩ := hq
                      have hK337 : Kd (fun j => j = 502 ∨ j = 503 ∨ j = 504 ∨ j = 505 ∨ j = 506 ∨ j = 507) (fun k => k = 18 ∨ k = 19 ∨ k = 20 ∨ k = 28 ∨ k = 29 ∨ k = 36 ∨ k = 37 ∨ k = 38 ∨ k = 39 ∨ k = 40 ∨ k = 41) lg0 it0 lg333 it334 := kd_t hK323 hK336 (fun j hj => by first | omega | exact False.elim hj | (dsimp only at hj ⊢; omega)) (fun j hj => by first | omega | exact False.elim hj | (dsimp only at hj ⊢; omega))
                      try have e340 : (it334 489 0).toInt = (it320 489 0).toInt := congrArg Int32.toInt (hK336.2 0 (by first | decide | (dsimp only; decide) | omega | (dsimp only; omega))).2
                      have PN341 : N9 lg333 it334 := N9_c PN327 (hK336.1 507 (by decide) (by first | decide | (dsimp only; decide) | omega | (dsimp only; omega))).1 (hK336.2 0 (by first | decide | (dsimp only; decide) | omega | (dsimp only; omega))).2
                      have Pz29342 : ¬ lg333 489 29 = 0 := z_c (Pz29328) (hK336.2 29 (by first | decide | (dsimp only; decide) | omega | (dsimp only; omega))).1
                      have Pz39343 : ¬ lg333 489 39 = 0 := z_c (Pz39329) (hK336.2 39 (by first | decide | (dsimp only; decide) | omega | (dsimp only; omega))).1
                      have PQ344 : (¬ a1 = 0 → ¬ a1 = 9 → ¬ lg333 489 41 = 0) := fun h1 h2 => z_c (PQ330 h1 h2) (hK336.2 41 (by first | decide | (dsimp only; decide) | omega | (dsimp only; omega))).1
                      have PT345 : T9 lg333 it334 := ha339 PT331
                      subst hp
                      exact ⟨⟨hI335, hK337⟩, ⟨PT345, Pz29342⟩⟩
              · try simp only [Int32.lt_iff_toInt_lt, Int32.le_iff_toInt_le, ← Int32.toInt_inj, Int32.toInt_toInt64, ti_m14, ti_m13, ti_m12, ti_m11, ti_m10, ti_m9, ti_m6, ti_m5, ti_m4, ti_m3, ti_m2, ti_m1, ti_0, ti_1, ti_2, ti_3, ti_4, ti_5, ti_6, ti_7, ti_8, ti_9, ti_10, ti_11, ti_12, ti_19, ti_20, ti_21, ti_44, ti_45, ti_48, ti_57, ti_59, ti_60, ti_98, ti_99, ti_100, ti_101, ti_103, ti_108, ti_110, ti_114, ti_127] at c116
                unfold w_X9_does_b141
                refine ⟨_, s_X9_becomes  ((0 : Int32)) ((lg286 489 38)) ((lg286 489 39)) hI284 (by first | omega | (constructor <;> first | decide | omega | ((try simp only [Int32.lt_iff_toInt_lt, Int32.le_iff_toInt_le, ← Int32.toInt_inj, Int32.toInt_toInt64, ti_m14, ti_m13, ti_m12, ti_m11, ti_m10, ti_m9, ti_m6, ti_m5, ti_m4, ti_m3, ti_m2, ti_m1, ti_0, ti_1, ti_2, ti_3, ti_4, ti_5, ti_6, ti_7, ti_8, ti_9, ti_10, ti_11, ti_12, ti_19, ti_20, ti_21, ti_44, ti_45, ti_48, ti_57, ti_59, ti_60, ti_98, ti_99, ti_100, ti_101, ti_103, ti_108, ti_110, ti_114, ti_127]); omega))) (by assumption), ?_⟩
                intro lg347 it348 hq
                obtain ⟨⟨hI349, hK350⟩, ha353⟩ := hq
                have hK351 : Kd (fun j => j = 502 ∨ j = 503 ∨ j = 504 ∨ j = 505 ∨ j = 506 ∨ j = 507) (fun k => k = 18 ∨ k = 19 ∨ k = 20 ∨ k = 28 ∨ k = 29 ∨ k = 36 ∨ k = 37 ∨ k = 38 ∨ k = 39 ∨ k = 40 ∨ k = 41) lg0 it0 lg347 it348 := kd_t hK285 hK350 (fun j hj => by first | omega | exact False.elim hj | (dsimp only at hj ⊢; omega)) (fun j hj => by first | omega | exact False.elim hj | (dsimp only at hj ⊢; omega))
                try have e354 : (it348 489 0).toInt = (it287 489 0).toInt := congrArg Int32.toInt (hK350.2 0 (by first | decide | (dsimp only; decide) | omega | (dsimp only; omega))).2
                have PN355 : N9 lg347 it348 := N9_c hv76_2 (hK350.1 507 (by decide) (by first | decide | (dsimp only; decide) | omega | (dsimp only; omega))).1 (hK350.2 0 (by first | decide | (dsimp only; decide) | omega | (dsimp only; omega))).2
                have Pz29356 : ¬ lg347 489 29 = 0 := z_c (hv76_3) (hK350.2 29 (by first | decide | (dsimp only; decide) | omega | (dsimp only; omega))).1
                have Pz39357 : ¬ lg347 489 39 = 0 := z_c (hv76_4) (hK350.2 39 (by first | decide | (dsimp only; decide) | omega | (dsimp only; omega))).1
                have PQ358 : (¬ a1 = 0 → ¬ a1 = 9 → ¬ lg347 489 41 = 0) := fun h1 h2 => z_c (hv76_5 h1 h2) (hK350.2 41 (by first | decide | (dsimp only; decide) | omega | (dsimp only; omega))).1
                have PT359 : T9 lg347 it348 := ha353 hv76_1
                refine ⟨fun c153 => ?_, fun c153 => ?_⟩
                · try simp only [Int32.lt_iff_toInt_lt, Int32.le_iff_toInt_le, ← Int32.toInt_inj, Int32.toInt_toInt64, ti_m14, ti_m13, ti_m12, ti_m11, ti_m10, ti_m9, ti_m6, ti_m5, ti_m4, ti_m3, ti_m2, ti_m1, ti_0, ti_1, ti_2, ti_3, ti_4, ti_5, ti_6, ti_7, ti_8, ti_9, ti_10, ti_11, ti_12, ti_19, ti_20, ti_21, ti_44, ti_45, ti_48, ti_57, ti_59, ti_60, ti_98, ti_99, ti_100, ti_101, ti_103, ti_108, ti_110, ti_114, ti_127] at c153
                  subst hp
                  exact ⟨⟨hI349, hK351⟩, ⟨PT359, Pz29356⟩⟩
                · try simp only [Int32.lt_iff_toInt_lt, Int32.le_iff_toInt_le, ← Int32.toInt_inj, Int32.toInt_toInt64, ti_m14, ti_m13, ti_m12, ti_m11, ti_m10, ti_m9, ti_m6, ti_m5, ti_m4, ti_m3, ti_m2, ti_m1, ti_0, ti_1, ti_2, ti_3, ti_4, ti_5, ti_6, ti_7, ti_8, ti_9, ti_10, ti_11, ti_12, ti_19, ti_20, ti_21, ti_44, ti_45, ti_48, ti_57, ti_59, ti_60, ti_98, ti_99, ti_100, ti_101, ti_103, ti_108, ti_110, ti_114, ti_127] at c153
                  refine ⟨fun c159 => ?_, fun c159 => ?_⟩
                  · try simp only [Int32.lt_iff_toInt_lt, Int32.le_iff_toInt_le, ← Int32.toInt_inj, Int32.toInt_toInt64, ti_m14, ti_m13, ti_m12, ti_m11, ti_m10, ti_m9, ti_m6, ti_m5, ti_m4, ti_m3, ti_m2, ti_m1, ti_0, ti_1, ti_2, ti_3, ti_4, ti_5, ti_6, ti_7, ti_8, ti_9, ti_10, ti_11, ti_12, ti_19, ti_20, ti_21, ti_44, ti_45, ti_48, ti_57, ti_59, ti_60, ti_98, ti_99, ti_100, ti_101, ti_103, ti_108, ti_110, ti_114, ti_127] at c159
                    subst hp
                    exact ⟨⟨hI349, hK351⟩, ⟨PT359, Pz29356⟩⟩
                  · try simp only [Int32.lt_iff_toInt_lt, Int32.le_iff_toInt_le, ← Int32.toInt_inj, Int32.toInt_toInt64, ti_m14, ti_m13, ti_m12, ti_m11, ti_m10, ti_m9, ti_m6, ti_m5, ti_m4, ti_m3, ti_m2, ti_m1, ti_0, ti_1, ti_2, ti_3, ti_4, ti_5, ti_6, ti_7, ti_8, ti_9, ti_10, ti_11, ti_12, ti_19, ti_20, ti_21, ti_44, ti_45, ti_48, ti_57, ti_59, ti_60, ti_98, ti_99, ti_100, ti_101, ti_103, ti_108, ti_110, ti_114, ti_127] at c159
                    refine ⟨_, s_X9_becomes  (a1) ((lg347 489 40)) ((lg347 489 41)) hI349 (by first | omega | (constructor <;> first | decide | omega | ((try simp only [Int32.lt_iff_toInt_lt, Int32.le_iff_toInt_le, ← Int32.toInt_inj, Int32.toInt_toInt64, ti_m14, ti_m13, ti_m12, ti_m11, ti_m10, ti_m9, ti_m6, ti_m5, ti_m4, ti_m3, ti_m2, ti_m1, ti_0, ti_1, ti_2, ti_3, ti_4, ti_5, ti_6, ti_7, ti_8, ti_9, ti_10, ti_11, ti_12, ti_19, ti_20, ti_21, ti_44, ti_45, ti_48, ti_57, ti_59, ti_60, ti_98, ti_99, ti_100, ti_101, ti_103, ti_108, ti_110, ti_114, ti_127]); omega))) (PQ358 (fun q => absurd ((congrArg Int32.toInt q).trans ti_0) (by omega)) (fun q => absurd ((congrArg Int32.toInt q).trans ti_9) (by omega))), ?_⟩
                    intro lg361 it362 hq
                    obtain ⟨⟨hI363, hK364⟩, ha367⟩ := hq
                    have hK365 : Kd (fun j => j = 502 ∨ j = 503 ∨ j = 504 ∨ j = 505 ∨ j = 506 ∨ j = 507) (fun k => k = 18 ∨ k = 19 ∨ k = 20 ∨ k = 28 ∨ k = 29 ∨ k = 36 ∨ k = 37 ∨ k = 38 ∨ k = 39 ∨ k = 40 ∨ k = 41) lg0 it0 lg361 it362 := kd_t hK351 hK364 (fun j hj => by first | omega | exact False.elim hj | (dsimp only at hj ⊢; omega)) (fun j hj => by first | omega | exact False.elim hj | (dsimp only at hj ⊢; omega))
                    try have e368 : (it362 489 0).toInt = (it348 489 0).toInt := congrArg Int32.toInt (hK364.2 0 (by first | decide | (dsimp only; decide) | omega | (dsimp only; omega))).2
                    have PN369 : N9 lg361 it362 := N9_c PN355 (hK364.1 507 (by decide) (by first | decide | (dsimp only; decide) | omega | (dsimp only; omega))).1 (hK364.2 0 (by first | decide | (dsimp only; decide) | omega | (dsimp only; omega))).2
                    have Pz29370 : ¬ lg361 489 29 = 0 := z_c (Pz29356) (hK364.2 29 (by first | decide | (dsimp only; decide) | omega | (dsimp only; omega))).1
                    have Pz39371 : ¬ lg361 489 39 = 0 := z_c (Pz39357) (hK364.2 39 (by first | decide | (dsimp only; decide) | omega | (dsimp only; omega))).1
                    have PQ372 : (¬ a1 = 0 → ¬ a1 = 9 → ¬ lg361 489 41 = 0) := fun h1 h2 => z_c (PQ358 h1 h2) (hK364.2 41 (by first | decide | (dsimp only; decide) | omega | (dsimp only; omega))).1
                    have PT373 : T9 lg361 it362 := ha367 PT359
                    subst hp
                    exact ⟨⟨hI363, hK365⟩, ⟨PT373, Pz29370⟩⟩
            · try simp only [Int32.lt_iff_toInt_lt, Int32.le_iff_toInt_le, ← Int32.toInt_inj, Int32.toInt_toInt64, ti_m14, ti_m13, ti_m12, ti_m11, ti_m10, ti_m9, ti_m6, ti_m5, ti_m4, ti_m3, ti_m2, ti_m1, ti_0, ti_1, ti_2, ti_3, ti_4, ti_5, ti_6, ti_7, ti_8, ti_9, ti_10, ti_11, ti_12, ti_19, ti_20, ti_21, ti_44, ti_45, ti_48, ti_57, ti_59, ti_60, ti_98, ti_99, ti_100, ti_101, ti_103, ti_108, ti_110, ti_114, ti_127] at c81
              have hi375 : vp_in x2 6 := vp_of (by first | omega | ((try simp only [Int32.lt_iff_toInt_lt, Int32.le_iff_toInt_le, ← Int32.toInt_inj, Int32.toInt_toInt64, ti_m14, ti_m13, ti_m12, ti_m11, ti_m10, ti_m9, ti_m6, ti_m5, ti_m4, ti_m3, ti_m2, ti_m1, ti_0, ti_1, ti_2, ti_3, ti_4, ti_5, ti_6, ti_7, ti_8, ti_9, ti_10, ti_11, ti_12, ti_19, ti_20, ti_21, ti_44, ti_45, ti_48, ti_57, ti_59, ti_60, ti_98, ti_99, ti_100, ti_101, ti_103, ti_108, ti_110, ti_114, ti_127]); omega) | (split <;> omega)) (by first | omega | ((try simp only [Int32.lt_iff_toInt_lt, Int32.le_iff_toInt_le, ← Int32.toInt_inj, Int32.toInt_toInt64, ti_m14, ti_m13, ti_m12, ti_m11, ti_m10, ti_m9, ti_m6, ti_m5, ti_m4, ti_m3, ti_m2, ti_m1, ti_0, ti_1, ti_2, ti_3, ti_4, ti_5, ti_6, ti_7, ti_8, ti_9, ti_10, ti_11, ti_12, ti_19, ti_20, ti_21, ti_44, ti_45, ti_48, ti_57, ti_59, ti_60, ti_98, ti_99, ti_100, ti_101, ti_103, ti_108, ti_110, ti_114, ti_127]); omega) | (split <;> omega))
              refine ⟨hi375, ?_⟩
              have hz376 := vlt hi375
              have hi377 : vp_in x2 6 := vp_of (by first | omega | ((try simp only [Int32.lt_iff_toInt_lt, Int32.le_iff_toInt_le, ← Int32.toInt_inj, Int32.toInt_toInt64, ti_m14, ti_m13, ti_m12, ti_m11, ti_m10, ti_m9, ti_m6, ti_m5, ti_m4, ti_m3, ti_m2, ti_m1, ti_0, ti_1, ti_2, ti_3, ti_4, ti_5, ti_6, ti_7, ti_8, ti_9, ti_10, ti_11, ti_12, ti_19, ti_20, ti_21, ti_44, ti_45, ti_48, ti_57, ti_59, ti_60, ti_98, ti_99, ti_100, ti_101, ti_103, ti_108, ti_110, ti_114, ti_127]); omega) | (split <;> omega)) (by first | omega | ((try simp only [Int32.lt_iff_toInt_lt, Int32.le_iff_toInt_le, ← Int32.toInt_inj, Int32.toInt_toInt64, ti_m14, ti_m13, ti_m12, ti_m11, ti_m10, ti_m9, ti_m6, ti_m5, ti_m4, ti_m3, ti_m2, ti_m1, ti_0, ti_1, ti_2, ti_3, ti_4, ti_5, ti_6, ti_7, ti_8, ti_9, ti_10, ti_11, ti_12, ti_19, ti_20, ti_21, ti_44, ti_45, ti_48, ti_57, ti_59, ti_60, ti_98, ti_99, ti_100, ti_101, ti_103, ti_108, ti_110, ti_114, ti_127]); omega) | (split <;> omega))
              refine ⟨hi377, ?_⟩
              have hz378 := vlt hi377
              intro lg379 em380
              have hI381 : I9 lg379 it287 := by rw [em380]; exact i9_l hI284 (by decide) (by decide) (by decide)
              have hK382 : Kd (fun j => j = 502 ∨ j = 503 ∨ j = 504 ∨ j = 505 ∨ j = 506 ∨ j = 507) (fun k => k = 18 ∨ k = 19 ∨ k = 20 ∨ k = 28 ∨ k = 29 ∨ k = 36 ∨ k = 37 ∨ k = 38 ∨ k = 39 ∨ k = 40 ∨ k = 41) lg0 it0 lg379 it287 := by rw [em380]; exact kd_lr (by decide) (by first | decide | (dsimp only; decide) | omega | (dsimp only; omega)) hK285
              have PT383 : T9 lg379 it287 := T9_c hv76_1 (by rw [em380]; exact u2_row (by decide)) (by rw [em380]; exact u2_row (by decide)) rfl rfl
              have PN384 : N9 lg379 it287 := N9_c hv76_2 (by rw [em380]; exact u2_row (by decide)) rfl
              have Pz29385 : ¬ lg379 489 29 = 0 := z_c (hv76_3) (by rw [em380]; exact congrFun (u2_row (by decide)) 29)
              have Pz39386 : ¬ lg379 489 39 = 0 := z_c (hv76_4) (by rw [em380]; exact congrFun (u2_row (by decide)) 39)
              have PQ387 : (¬ a1 = 0 → ¬ a1 = 9 → ¬ lg379 489 41 = 0) := fun h1 h2 => z_c (hv76_5 h1 h2) (by rw [em380]; exact congrFun (u2_row (by decide)) 41)
              have hi388 : vp_in x2 6 := vp_of (by first | omega | ((try simp only [Int32.lt_iff_toInt_lt, Int32.le_iff_toInt_le, ← Int32.toInt_inj, Int32.toInt_toInt64, ti_m14, ti_m13, ti_m12, ti_m11, ti_m10, ti_m9, ti_m6, ti_m5, ti_m4, ti_m3, ti_m2, ti_m1, ti_0, ti_1, ti_2, ti_3, ti_4, ti_5, ti_6, ti_7, ti_8, ti_9, ti_10, ti_11, ti_12, ti_19, ti_20, ti_21, ti_44, ti_45, ti_48, ti_57, ti_59, ti_60, ti_98, ti_99, ti_100, ti_101, ti_103, ti_108, ti_110, ti_114, ti_127]); omega) | (split <;> omega)) (by first | omega | ((try simp only [Int32.lt_iff_toInt_lt, Int32.le_iff_toInt_le, ← Int32.toInt_inj, Int32.toInt_toInt64, ti_m14, ti_m13, ti_m12, ti_m11, ti_m10, ti_m9, ti_m6, ti_m5, ti_m4, ti_m3, ti_m2, ti_m1, ti_0, ti_1, ti_2, ti_3, ti_4, ti_5, ti_6, ti_7, ti_8, ti_9, ti_10, ti_11, ti_12, ti_19, ti_20, ti_21, ti_44, ti_45, ti_48, ti_57, ti_59, ti_60, ti_98, ti_99, ti_100, ti_101, ti_103, ti_108, ti_110, ti_114, ti_127]); omega) | (split <;> omega))
              refine ⟨hi388, ?_⟩
              have hz389 := vlt hi388
              have hi390 : vp_in x2 6 := vp_of (by first | omega | ((try simp only [Int32.lt_iff_toInt_lt, Int32.le_iff_toInt_le, ← Int32.toInt_inj, Int32.toInt_toInt64, ti_m14, ti_m13, ti_m12, ti_m11, ti_m10, ti_m9, ti_m6, ti_m5, ti_m4, ti_m3, ti_m2, ti_m1, ti_0, ti_1, ti_2, ti_3, ti_4, ti_5, ti_6, ti_7, ti_8, ti_9, ti_10, ti_11, ti_12, ti_19, ti_20, ti_21, ti_44, ti_45, ti_48, ti_57, ti_59, ti_60, ti_98, ti_99, ti_100, ti_101, ti_103, ti_108, ti_110, ti_114, ti_127]); omega) | (split <;> omega)) (by first | omega | ((try simp only [Int32.lt_iff_toInt_lt, Int32.le_iff_toInt_le, ← Int32.toInt_inj, Int32.toInt_toInt64, ti_m14, ti_m13, ti_m12, ti_m11, ti_m10, ti_m9, ti_m6, ti_m5, ti_m4, ti_m3, ti_m2, ti_m1, ti_0, ti_1, ti_2, ti_3, ti_4, ti_5, ti_6, ti_7, ti_8, ti_9, ti_10, ti_11, ti_12, ti_19, ti_20, ti_21, ti_44, ti_45, ti_48, ti_57, ti_59, ti_60, ti_98, ti_99, ti_100, ti_101, ti_103, ti_108, ti_110, ti_114, ti_127]); omega) | (split <;> omega))
              refine ⟨hi390, ?_⟩
              have hz391 := vlt hi390
              intro lg392 em393
              have hI394 : I9 lg392 it287 := by rw [em393]; exact i9_l hI381 (by decide) (by decide) (by decide)
              have hK395 : Kd (fun j => j = 502 ∨ j = 503 ∨ j = 504 ∨ j = 505 ∨ j = 506 ∨ j = 507) (fun k => k = 18 ∨ k = 19 ∨ k = 20 ∨ k = 28 ∨ k = 29 ∨ k = 36 ∨ k = 37 ∨ k = 38 ∨ k = 39 ∨ k = 40 ∨ k = 41) lg0 it0 lg392 it287 := by rw [em393]; exact kd_lr (by decide) (by first | decide | (dsimp only; decide) | omega | (dsimp only; omega)) hK382
              have PN396 : N9 lg392 it287 := N9_c PN384 (by rw [em393]; exact u2_row (by decide)) rfl
              have Pz29397 : ¬ lg392 489 29 = 0 := z_c (Pz29385) (by rw [em393]; exact congrFun (u2_row (by decide)) 29)
              have Pz39398 : ¬ lg392 489 39 = 0 := z_c (Pz39386) (by rw [em393]; exact congrFun (u2_row (by decide)) 39)
              have PQ399 : (¬ a1 = 0 → ¬ a1 = 9 → ¬ lg392 489 41 = 0) := fun h1 h2 => z_c (PQ387 h1 h2) (by rw [em393]; exact congrFun (u2_row (by decide)) 41)
              have PT400 : T9 lg392 it287 := by rw [em393]; exact T9_w (Or.inl rfl) PT383 ((PN384 (x2).toNatClampNeg (by have z1 := cl32 (i := x2) (by omega); omega) (by have z1 := cl32 (i := x2) (by omega); omega)))
              try have f401 : ((x2 + 1) : Int32).toInt = (x2).toInt + 1 := ad32 (a := (x2).toInt) (b := 1) (rfl) (ti_1) (by omega) (by omega)
              exact ih76 ((x2 + 1)) _ _ hI394 hK395 (by refine ⟨?_, ?_, ?_, ?_, ?_, ?_, ?_⟩ <;> first | exact Nx_0 | omega | assumption | exact Or.inl rfl | exact Or.inr rfl | exact i8_1 (by assumption) (by assumption) | decide) (by omega)
        have t402 := ti_0
        exact ⟨_, lp76 ((7 - ((0 : Int32)).toInt).toNat + 1) ((0 : Int32)) _ _ hI275 hK276 (by refine ⟨?_, ?_, ?_, ?_, ?_, ?_, ?_⟩ <;> first | exact Nx_0 | omega | assumption | exact Or.inl rfl | exact Or.inr rfl | exact i8_1 (by assumption) (by assumption) | decide) (Nat.lt_succ_self _)⟩
      · try simp only [Int32.lt_iff_toInt_lt, Int32.le_iff_toInt_le, ← Int32.toInt_inj, Int32.toInt_toInt64, ti_m14, ti_m13, ti_m12, ti_m11, ti_m10, ti_m9, ti_m6, ti_m5, ti_m4, ti_m3, ti_m2, ti_m1, ti_0, ti_1, ti_2, ti_3, ti_4, ti_5, ti_6, ti_7, ti_8, ti_9, ti_10, ti_11, ti_12, ti_19, ti_20, ti_21, ti_44, ti_45, ti_48, ti_57, ti_59, ti_60, ti_98, ti_99, ti_100, ti_101, ti_103, ti_108, ti_110, ti_114, ti_127] at c54
        subst hp
        exact ⟨⟨hI248, hK250⟩, ⟨PT255, Pz29256⟩⟩
  · try simp only [Int32.lt_iff_toInt_lt, Int32.le_iff_toInt_le, ← Int32.toInt_inj, Int32.toInt_toInt64, ti_m14, ti_m13, ti_m12, ti_m11, ti_m10, ti_m9, ti_m6, ti_m5, ti_m4, ti_m3, ti_m2, ti_m1, ti_0, ti_1, ti_2, ti_3, ti_4, ti_5, ti_6, ti_7, ti_8, ti_9, ti_10, ti_11, ti_12, ti_19, ti_20, ti_21, ti_44, ti_45, ti_48, ti_57, ti_59, ti_60, ti_98, ti_99, ti_100, ti_101, ti_103, ti_108, ti_110, ti_114, ti_127] at c5
    refine ⟨_, s_X9_turnsBack  ((0 : Int32)) ((it74 489 31)) hI75 (PT81) (by first | omega | (constructor <;> first | omega | ((try simp only [Int32.lt_iff_toInt_lt, Int32.le_iff_toInt_le, ← Int32.toInt_inj, Int32.toInt_toInt64, ti_m14, ti_m13, ti_m12, ti_m11, ti_m10, ti_m9, ti_m6, ti_m5, ti_m4, ti_m3, ti_m2, ti_m1, ti_0, ti_1, ti_2, ti_3, ti_4, ti_5, ti_6, ti_7, ti_8, ti_9, ti_10, ti_11, ti_12, ti_19, ti_20, ti_21, ti_44, ti_45, ti_48, ti_57, ti_59, ti_60, ti_98, ti_99, ti_100, ti_101, ti_103, ti_108, ti_110, ti_114, ti_127]); omega))), ?_⟩
    intro lg403 it404 hq
    obtain ⟨⟨hI405, hK406⟩, ha409⟩ := hq
    have hK407 : Kd (fun j => j = 502 ∨ j = 503 ∨ j = 504 ∨ j = 505 ∨ j = 506 ∨ j = 507) (fun k => k = 18 ∨ k = 19 ∨ k = 20 ∨ k = 28 ∨ k = 29 ∨ k = 36 ∨ k = 37 ∨ k = 38 ∨ k = 39 ∨ k = 40 ∨ k = 41) lg0 it0 lg403 it404 := kd_t hK77 hK406 (fun j hj => by first | omega | exact False.elim hj | (dsimp only at hj ⊢; omega)) (fun j hj => by first | omega | exact False.elim hj | (dsimp only at hj ⊢; omega))
    try have e410 : (it404 489 0).toInt = (it74 489 0).toInt := congrArg Int32.toInt (hK406.2 0 (by first | decide | (dsimp only; decide) | omega | (dsimp only; omega))).2
    try have e411 : (it404 489 31).toInt = (it74 489 31).toInt := congrArg Int32.toInt (hK406.2 31 (by first | decide | (dsimp only; decide) | omega | (dsimp only; omega))).2
    have PT412 : T9 lg403 it404 := T9_c PT81 (hK406.1 503 (by decide) (by first | decide | (dsimp only; decide) | omega | (dsimp only; omega))).1 (hK406.1 505 (by decide) (by first | decide | (dsimp only; decide) | omega | (dsimp only; omega))).1 (hK406.1 501 (by decide) (by first | decide | (dsimp only; decide) | omega | (dsimp only; omega))).2 (hK406.2 0 (by first | decide | (dsimp only; decide) | omega | (dsimp only; omega))).2
    have Pz29413 : ¬ lg403 489 29 = 0 := z_c (Pz2982) (hK406.2 29 (by first | decide | (dsimp only; decide) | omega | (dsimp only; omega))).1
    have Pz35414 : ¬ lg403 489 35 = 0 := z_c (Pz3583) (hK406.2 35 (by first | decide | (dsimp only; decide) | omega | (dsimp only; omega))).1
    have Pz37415 : ¬ lg403 489 37 = 0 := z_c (ha79.1) (hK406.2 37 (by first | decide | (dsimp only; decide) | omega | (dsimp only; omega))).1
    have PN416 : N9 lg403 it404 := N9_c ha79.2 (hK406.1 507 (by decide) (by first | decide | (dsimp only; decide) | omega | (dsimp only; omega))).1 (hK406.2 0 (by first | decide | (dsimp only; decide) | omega | (dsimp only; omega))).2
    have PQ417 : (¬ a1 = 0 → ¬ a1 = 9 → ¬ lg403 489 41 = 0) := fun h1 h2 => by
      have q1 : ¬ a1.toInt = 0 := fun q => h1 (Int32.toInt_inj.mp (q.trans ti_0.symm))
      have q2 : ¬ a1.toInt = 9 := fun q => h2 (Int32.toInt_inj.mp (q.trans ti_9.symm))
      omega
    unfold w_X9_does_b50
    have f418 : 0 ≤ (it404 489 20).toInt ∧ (it404 489 20).toInt ≤ 1 := i9_f hI405 (j := 489) (k := 20) rfl
    refine ⟨fun c54 => ?_, fun c54 => ?_⟩
    · try simp only [Int32.lt_iff_toInt_lt, Int32.le_iff_toInt_le, ← Int32.toInt_inj, Int32.toInt_toInt64, ti_m14, ti_m13, ti_m12, ti_m11, ti_m10, ti_m9, ti_m6, ti_m5, ti_m4, ti_m3, ti_m2, ti_m1, ti_0, ti_1, ti_2, ti_3, ti_4, ti_5, ti_6, ti_7, ti_8, ti_9, ti_10, ti_11, ti_12, ti_19, ti_20, ti_21, ti_44, ti_45, ti_48, ti_57, ti_59, ti_60, ti_98, ti_99, ti_100, ti_101, ti_103, ti_108, ti_110, ti_114, ti_127] at c54
      intro lg419 em420
      have hI421 : I9 lg419 it404 := by rw [em420]; exact i9_l hI405 (by decide) (by decide) (by decide)
      have hK422 : Kd (fun j => j = 502 ∨ j = 503 ∨ j = 504 ∨ j = 505 ∨ j = 506 ∨ j = 507) (fun k => k = 18 ∨ k = 19 ∨ k = 20 ∨ k = 28 ∨ k = 29 ∨ k = 36 ∨ k = 37 ∨ k = 38 ∨ k = 39 ∨ k = 40 ∨ k = 41) lg0 it0 lg419 it404 := by rw [em420]; exact kd_lf (by first | decide | (dsimp only; decide) | omega | (dsimp only; omega)) hK407
      have PT423 : T9 lg419 it404 := T9_c PT412 (by rw [em420]; exact u2_row (by decide)) (by rw [em420]; exact u2_row (by decide)) rfl rfl
      have Pz29424 : ¬ lg419 489 29 = 0 := z_c (Pz29413) (by rw [em420]; exact u2_ne (by decide))
      have Pz35425 : ¬ lg419 489 35 = 0 := z_c (Pz35414) (by rw [em420]; exact u2_ne (by decide))
      have Pz37426 : ¬ lg419 489 37 = 0 := z_c (Pz37415) (by rw [em420]; exact u2_ne (by decide))
      have PN427 : N9 lg419 it404 := N9_c PN416 (by rw [em420]; exact u2_row (by decide)) rfl
      have Pz39428 : ¬ lg419 489 39 = 0 := z_c (ha409) (by rw [em420]; exact u2_ne (by decide))
      have PQ429 : (¬ a1 = 0 → ¬ a1 = 9 → ¬ lg419 489 41 = 0) := fun h1 h2 => z_c (PQ417 h1 h2) (by rw [em420]; exact u2_ne (by decide))
      intro lg430 em431
      have hI432 : I9 lg430 it404 := by rw [em431]; exact i9_l hI421 (by decide) (by decide) (by decide)
      have hK433 : Kd (fun j => j = 502 ∨ j = 503 ∨ j = 504 ∨ j = 505 ∨ j = 506 ∨ j = 507) (fun k => k = 18 ∨ k = 19 ∨ k = 20 ∨ k = 28 ∨ k = 29 ∨ k = 36 ∨ k = 37 ∨ k = 38 ∨ k = 39 ∨ k = 40 ∨ k = 41) lg0 it0 lg430 it404 := by rw [em431]; exact kd_lf (by first | decide | (dsimp only; decide) | omega | (dsimp only; omega)) hK422
      have PT434 : T9 lg430 it404 := T9_c PT423 (by rw [em431]; exact u2_row (by decide)) (by rw [em431]; exact u2_row (by decide)) rfl rfl
      have Pz35435 : ¬ lg430 489 35 = 0 := z_c (Pz35425) (by rw [em431]; exact u2_ne (by decide))
      have Pz37436 : ¬ lg430 489 37 = 0 := z_c (Pz37426) (by rw [em431]; exact u2_ne (by decide))
      have PN437 : N9 lg430 it404 := N9_c PN427 (by rw [em431]; exact u2_row (by decide)) rfl
      have Pz39438 : ¬ lg430 489 39 = 0 := z_c (Pz39428) (by rw [em431]; exact u2_ne (by decide))
      have PQ439 : (¬ a1 = 0 → ¬ a1 = 9 → ¬ lg430 489 41 = 0) := fun h1 h2 => z_c (PQ429 h1 h2) (by rw [em431]; exact u2_ne (by decide))
      have Pz440 : ¬ lg430 489 29 = 0 := by rw [em431, u2_eq]; exact Pz37426
      have lp76 : ∀ (n : Nat) (x2 : Int32) (lg : LGt) (it : ITt), I9 lg it → Kd (fun j => j = 502 ∨ j = 503 ∨ j = 504 ∨ j = 505 ∨ j = 506 ∨ j = 507) (fun k => k = 18 ∨ k = 19 ∨ k = 20 ∨ k = 28 ∨ k = 29 ∨ k = 36 ∨ k = 37 ∨ k = 38 ∨ k = 39 ∨ k = 40 ∨ k = 41) lg0 it0 lg it → ((0 ≤ (x2).toInt) ∧ (T9 lg it) ∧ (N9 lg it) ∧ (¬ lg 489 29 = 0) ∧ (¬ lg 489 39 = 0) ∧ ((¬ a1 = 0 → ¬ a1 = 9 → ¬ lg 489 41 = 0)) ∧ ((it 489 0).toInt = (it0 489 0).toInt)) → (7 - (x2).toInt).toNat < n → w_X9_does_b76 a1 Pz  n x2 lg it := by
        intro n76
        induction n76 with
        | zero => intro x2 lg it _ _ _ hn; exact absurd hn (Nat.not_lt_zero _)
        | succ n76 ih76 =>
          intro x2 lg443 it444 hI441 hK442 hv hn
          unfold w_X9_does_b76
          obtain ⟨hv76_0, hv76_1, hv76_2, hv76_3, hv76_4, hv76_5, hv76_6⟩ := hv
          have f445 : 0 ≤ (it444 489 0).toInt ∧ (it444 489 0).toInt ≤ 6 := i9_f hI441 (j := 489) (k := 0) rfl
          refine ⟨fun c81 => ?_, fun c81 => ?_⟩
          · try simp only [Int32.lt_iff_toInt_lt, Int32.le_iff_toInt_le, ← Int32.toInt_inj, Int32.toInt_toInt64, ti_m14, ti_m13, ti_m12, ti_m11, ti_m10, ti_m9, ti_m6, ti_m5, ti_m4, ti_m3, ti_m2, ti_m1, ti_0, ti_1, ti_2, ti_3, ti_4, ti_5, ti_6, ti_7, ti_8, ti_9, ti_10, ti_11, ti_12, ti_19, ti_20, ti_21, ti_44, ti_45, ti_48, ti_57, ti_59, ti_60, ti_98, ti_99, ti_100, ti_101, ti_103, ti_108, ti_110, ti_114, ti_127] at c81
            refine ⟨fun c116 => ?_, fun c116 => ?_⟩
            · try simp only [Int32.lt_iff_toInt_lt, Int32.le_iff_toInt_le, ← Int32.toInt_inj, Int32.toInt_toInt64, ti_m14, ti_m13, ti_m12, ti_m11, ti_m10, ti_m9, ti_m6, ti_m5, ti_m4, ti_m3, ti_m2, ti_m1, ti_0, ti_1, ti_2, ti_3, ti_4, ti_5, ti_6, ti_7, ti_8, ti_9, ti_10, ti_11, ti_12, ti_19, ti_20, ti_21, ti_44, ti_45, ti_48, ti_57, ti_59, ti_60, ti_98, ti_99, ti_100, ti_101, ti_103, ti_108, ti_110, ti_114, ti_127] at c116
              refine ⟨fun c126 => ?_, fun c126 => ?_⟩
              · try simp only [Int32.lt_iff_toInt_lt, Int32.le_iff_toInt_le, ← Int32.toInt_inj, Int32.toInt_toInt64, ti_m14, ti_m13, ti_m12, ti_m11, ti_m10, ti_m9, ti_m6, ti_m5, ti_m4, ti_m3, ti_m2, ti_m1, ti_0, ti_1, ti_2, ti_3, ti_4, ti_5, ti_6, ti_7, ti_8, ti_9, ti_10, ti_11, ti_12, ti_19, ti_20, ti_21, ti_44, ti_45, ti_48, ti_57, ti_59, ti_60, ti_98, ti_99, ti_100, ti_101, ti_103, ti_108, ti_110, ti_114, ti_127] at c126
                try have f446 : ((a1 - 1) : Int32).toInt = (a1).toInt - 1 := sb32 (a := (a1).toInt) (b := 1) (rfl) (ti_1) (by omega) (by omega)
                unfold w_X9_does_b141
                refine ⟨_, s_X9_becomes  ((a1 - 1)) ((lg443 489 38)) ((lg443 489 39)) hI441 (by first | omega | (constructor <;> first | decide | omega | ((try simp only [Int32.lt_iff_toInt_lt, Int32.le_iff_toInt_le, ← Int32.toInt_inj, Int32.toInt_toInt64, ti_m14, ti_m13, ti_m12, ti_m11, ti_m10, ti_m9, ti_m6, ti_m5, ti_m4, ti_m3, ti_m2, ti_m1, ti_0, ti_1, ti_2, ti_3, ti_4, ti_5, ti_6, ti_7, ti_8, ti_9, ti_10, ti_11, ti_12, ti_19, ti_20, ti_21, ti_44, ti_45, ti_48, ti_57, ti_59, ti_60, ti_98, ti_99, ti_100, ti_101, ti_103, ti_108, ti_110, ti_114, ti_127]); omega))) (by assumption), ?_⟩
                intro lg447 it448 hq
                obtain ⟨⟨hI449, hK450⟩, ha453⟩ := hq
                have hK451 : Kd (fun j => j = 502 ∨ j = 503 ∨ j = 504 ∨ j = 505 ∨ j = 506 ∨ j = 507) (fun k => k = 18 ∨ k = 19 ∨ k = 20 ∨ k = 28 ∨ k = 29 ∨ k = 36 ∨ k = 37 ∨ k = 38 ∨ k = 39 ∨ k = 40 ∨ k = 41) lg0 it0 lg447 it448 := kd_t hK442 hK450 (fun j hj => by first | omega | exact False.elim hj | (dsimp only at hj ⊢; omega)) (fun j hj => by first | omega | exact False.elim hj | (dsimp only at hj ⊢; omega))
                try have e454 : (it448 489 0).toInt = (it444 489 0).toInt := congrArg Int32.toInt (hK450.2 0 (by first | decide | (dsimp only; decide) | omega | (dsimp only; omega))).2
                have PN455 : N9 lg447 it448 := N9_c hv76_2 (hK450.1 507 (by decide) (by first | decide | (dsimp only; decide) | omega | (dsimp only; omega))).1 (hK450.2 0 (by first | decide | (dsimp only; decide) | omega | (dsimp only; omega))).2
                have Pz29456 : ¬ lg447 489 29 = 0 := z_c (hv76_3) (hK450.2 29 (by first | decide | (dsimp only; decide) | omega | (dsimp only; omega))).1
                have Pz39457 : ¬ lg447 489 39 = 0 := z_c (hv76_4) (hK450.2 39 (by first | decide | (dsimp only; decide) | omega | (dsimp only; omega))).1
                have PQ458 : (¬ a1 = 0 → ¬ a1 = 9 → ¬ lg447 489 41 = 0) := fun h1 h2 => z_c (hv76_5 h1 h2) (hK450.2 41 (by first | decide | (dsimp only; decide) | omega | (dsimp only; omega))).1
                have PT459 : T9 lg447 it448 := ha453 hv76_1
                refine ⟨fun c153 => ?_, fun c153 => ?_⟩
                · try simp only [Int32.lt_iff_toInt_lt, Int32.le_iff_toInt_le, ← Int32.toInt_inj, Int32.toInt_toInt64, ti_m14, ti_m13, ti_m12, ti_m11, ti_m10, ti_m9, ti_m6, ti_m5, ti_m4, ti_m3, ti_m2, ti_m1, ti_0, ti_1, ti_2, ti_3, ti_4, ti_5, ti_6, ti_7, ti_8, ti_9, ti_10, ti_11, ti_12, ti_19, ti_20, ti_21, ti_44, ti_45, ti_48, ti_57, ti_59, ti_60, ti_98, ti_99, ti_100, ti_101, ti_103, ti_108, ti_110, ti_114, ti_127] at c153
                  subst hp
                  exact ⟨⟨hI449, hK451⟩, ⟨PT459, Pz29456⟩⟩
                · try simp only [Int32.lt_iff_toInt_lt, Int32.le_iff_toInt_le, ← Int32.toInt_inj, Int32.toInt_toInt64, ti_m14, ti_m13, ti_m12, ti_m11, ti_m10, ti_m9, ti_m6, ti_m5, ti_m4, ti_m3, ti_m2, ti_m1, ti_0, ti_1, ti_2, ti_3, ti_4, ti_5, ti_6, ti_7, ti_8, ti_9, ti_10, ti_11, ti_12, ti_19, ti_20, ti_21, ti_44, ti_45, ti_48, ti_57, ti_59, ti_60, ti_98, ti_99, ti_100, ti_101, ti_103, ti_108, ti_110, ti_114, ti_127] at c153
                  refine ⟨fun c159 => ?_, fun c159 => ?_⟩
                  · try simp only [Int32.lt_iff_toInt_lt, Int32.le_iff_toInt_le, ← Int32.toInt_inj, Int32.toInt_toInt64, ti_m14, ti_m13, ti_m12, ti_m11, ti_m10, ti_m9, ti_m6, ti_m5, ti_m4, ti_m3, ti_m2, ti_m1, ti_0, ti_1, ti_2, ti_3, ti_4, ti_5, ti_6, ti_7, ti_8, ti_9, ti_10, ti_11, ti_12, ti_19, ti_20, ti_21, ti_44, ti_45, ti_48, ti_57, ti_59, ti_60, ti_98, ti_99, ti_100, ti_101, ti_103, ti_108, ti_110, ti_114, ti_127] at c159
                    subst hp
                    exact ⟨⟨hI449, hK451⟩, ⟨PT459, Pz29456⟩⟩
                  · try simp only [Int32.lt_iff_toInt_lt, Int32.le_iff_toInt_le, ← Int32.toInt_inj, Int32.toInt_toInt64, ti_m14, ti_m13, ti_m12, ti_m11, ti_m10, ti_m9, ti_m6, ti_m5, ti_m4, ti_m3, ti_m2, ti_m1, ti_0, ti_1, ti_2, ti_3, ti_4, ti_5, ti_6, ti_7, ti_8, ti_9, ti_10, ti_11, ti_12, ti_19, ti_20, ti_21, ti_44, ti_45, ti_48, ti_57, ti_59, ti_60, ti_98, ti_99, ti_100, ti_101, ti_103, ti_108, ti_110, ti_114, ti_127] at c159
                    refine ⟨_, s_X9_becomes  (a1) ((lg447 489 40)) ((lg447 489 41)) hI449 (by first | omega | (constructor <;> first | decide | omega | ((try simp only [Int32.lt_iff_toInt_lt, Int32.le_iff_toInt_le, ← Int32.toInt_inj, Int32.toInt_toInt64, ti_m14, ti_m13, ti_m12, ti_m11, ti_m10, ti_m9, ti_m6, ti_m5, ti_m4, ti_m3, ti_m2, ti_m1, ti_0, ti_1, ti_2, ti_3, ti_4, ti_5, ti_6, ti_7, ti_8, ti_9, ti_10, ti_11, ti_12, ti_19, ti_20, ti_21, ti_44, ti_45, ti_48, ti_57, ti_59, ti_60, ti_98, ti_99, ti_100, ti_101, ti_103, ti_108, ti_110, ti_114, ti_127]); omega))) (PQ458 (fun q => absurd ((congrArg Int32.toInt q).trans ti_0) (by omega)) (fun q => absurd ((congrArg Int32.toInt q).trans ti_9) (by omega))), ?_⟩
                    intro lg461 it462 hq
                    obtain ⟨⟨hI463, hK464⟩, ha467⟩ := hq
                    have hK465 : Kd (fun j => j = 502 ∨ j = 503 ∨ j = 504 ∨ j = 505 ∨ j = 506 ∨ j = 507) (fun k => k = 18 ∨ k = 19 ∨ k = 20 ∨ k = 28 ∨ k = 29 ∨ k = 36 ∨ k = 37 ∨ k = 38 ∨ k = 39 ∨ k = 40 ∨ k = 41) lg0 it0 lg461 it462 := kd_t hK451 hK464 (fun j hj => by first | omega | exact False.elim hj | (dsimp only at hj ⊢; omega)) (fun j hj => by first | omega | exact False.elim hj | (dsimp only at hj ⊢; omega))
                    try have e468 : (it462 489 0).toInt = (it448 489 0).toInt := congrArg Int32.toInt (hK464.2 0 (by first | decide | (dsimp only; decide) | omega | (dsimp only; omega))).2
                    have PN469 : N9 lg461 it462 := N9_c PN455 (hK464.1 507 (by decide) (by first | decide | (dsimp only; decide) | omega | (dsimp only; omega))).1 (hK464.2 0 (by first | decide | (dsimp only; decide) | omega | (dsimp only; omega))).2
                    have Pz29470 : ¬ lg461 489 29 = 0 := z_c (Pz29456) (hK464.2 29 (by first | decide | (dsimp only; decide) | omega | (dsimp only; omega))).1
                    have Pz39471 : ¬ lg461 489 39 = 0 := z_c (Pz39457) (hK464.2 39 (by first | decide | (dsimp only; decide) | omega | (dsimp only; omega))).1
                    have PQ472 : (¬ a1 = 0 → ¬ a1 = 9 → ¬ lg461 489 41 = 0) := fun h1 h2 => z_c (PQ458 h1 h2) (hK464.2 41 (by first | decide | (dsimp only; decide) | omega | (dsimp only; omega))).1
                    have PT473 : T9 lg461 it462 := ha467 PT459
                    subst hp
                    exact ⟨⟨hI463, hK465⟩, ⟨PT473, Pz29470⟩⟩
              · try simp only [Int32.lt_iff_toInt_lt, Int32.le_iff_toInt_le, ← Int32.toInt_inj, Int32.toInt_toInt64, ti_m14, ti_m13, ti_m12, ti_m11, ti_m10, ti_m9, ti_m6, ti_m5, ti_m4, ti_m3, ti_m2, ti_m1, ti_0, ti_1, ti_2, ti_3, ti_4, ti_5, ti_6, ti_7, ti_8, ti_9, ti_10, ti_11, ti_12, ti_19, ti_20, ti_21, ti_44, ti_45, ti_48, ti_57, ti_59, ti_60, ti_98, ti_99, ti_100, ti_101, ti_103, ti_108, ti_110, ti_114, ti_127] at c126
                try have f475 : (((it444 489 0) - 1) : Int32).toInt = ((it444 489 0)).toInt - 1 := sb32 (a := ((it444 489 0)).toInt) (b := 1) (rfl) (ti_1) (by omega) (by omega)
                unfold w_X9_does_b141
                refine ⟨_, s_X9_becomes  (((it444 489 0) - 1)) ((lg443 489 38)) ((lg443 489 39)) hI441 (by first | omega | (constructor <;> first | decide | omega | ((try simp only [Int32.lt_iff_toInt_lt, Int32.le_iff_toInt_le, ← Int32.toInt_inj, Int32.toInt_toInt64, ti_m14, ti_m13, ti_m12, ti_m11, ti_m10, ti_m9, ti_m6, ti_m5, ti_m4, ti_m3, ti_m2, ti_m1, ti_0, ti_1, ti_2, ti_3, ti_4, ti_5, ti_6, ti_7, ti_8, ti_9, ti_10, ti_11, ti_12, ti_19, ti_20, ti_21, ti_44, ti_45, ti_48, ti_57, ti_59, ti_60, ti_98, ti_99, ti_100, ti_101, ti_103, ti_108, ti_110, ti_114, ti_127]); omega))) (by assumption), ?_⟩
                intro lg476 it477 hq
                obtain ⟨⟨hI478, hK479⟩, ha482⟩ := hq
                have hK480 : Kd (fun j => j = 502 ∨ j = 503 ∨ j = 504 ∨ j = 505 ∨ j = 506 ∨ j = 507) (fun k => k = 18 ∨ k = 19 ∨ k = 20 ∨ k = 28 ∨ k = 29 ∨ k = 36 ∨ k = 37 ∨ k = 38 ∨ k = 39 ∨ k = 40 ∨ k = 41) lg0 it0 lg476 it477 := kd_t hK442 hK479 (fun j hj => by first | omega | exact False.elim hj | (dsimp only at hj ⊢; omega)) (fun j hj => by first | omega | exact False.elim hj | (dsimp only at hj ⊢; omega))
                try have e483 : (it477 489 0).toInt = (it444 489 0).toInt := congrArg Int32.toInt (hK479.2 0 (by first | decide | (dsimp only; decide) | omega | (dsimp only; omega))).2
                have PN484 : N9 lg476 it477 := N9_c hv76_2 (hK479.1 507 (by decide) (by first | decide | (dsimp only; decide) | omega | (dsimp only; omega))).1 (hK479.2 0 (by first | decide | (dsimp only; decide) | omega | (dsimp only; omega))).2
                have Pz29485 : ¬ lg476 489 29 = 0 := z_c (hv76_3) (hK479.2 29 (by first | decide | (dsimp only; decide) | omega | (dsimp only; omega))).1
                have Pz39486 : ¬ lg476 489 39 = 0 := z_c (hv76_4) (hK479.2 39 (by first | decide | (dsimp only; decide) | omega | (dsimp only; omega))).1
                have PQ487 : (¬ a1 = 0 → ¬ a1 = 9 → ¬ lg476 489 41 = 0) := fun h1 h2 => z_c (hv76_5 h1 h2) (hK479.2 41 (by first | decide | (dsimp only; decide) | omega | (dsimp only; omega))).1
                have PT488 : T9 lg476 it477 := ha482 hv76_1
                refine ⟨fun c153 => ?_, fun c153 => ?_⟩
                · try simp only [Int32.lt_iff_toInt_lt, Int32.le_iff_toInt_le, ← Int32.toInt_inj, Int32.toInt_toInt64, ti_m14, ti_m13, ti_m12, ti_m11, ti_m10, ti_m9, ti_m6, ti_m5, ti_m4, ti_m3, ti_m2, ti_m1, ti_0, ti_1, ti_2, ti_3, ti_4, ti_5, ti_6, ti_7, ti_8, ti_9, ti_10, ti_11, ti_12, ti_19, ti_20, ti_21, ti_44, ti_45, ti_48, ti_57, ti_59, ti_60, ti_98, ti_99, ti_100, ti_101, ti_103, ti_108, ti_110, ti_114, ti_127] at c153
                  subst hp
                  exact ⟨⟨hI478, hK480⟩, ⟨PT488, Pz29485⟩⟩
                · try simp only [Int32.lt_iff_toInt_lt, Int32.le_iff_toInt_le, ← Int32.toInt_inj, Int32.toInt_toInt64, ti_m14, ti_m13, ti_m12, ti_m11, ti_m10, ti_m9, ti_m6, ti_m5, ti_m4, ti_m3, ti_m2, ti_m1, ti_0, ti_1, ti_2, ti_3, ti_4, ti_5, ti_6, ti_7, ti_8, ti_9, ti_10, ti_11, ti_12, ti_19, ti_20, ti_21, ti_44, ti_45, ti_48, ti_57, ti_59, ti_60, ti_98, ti_99, ti_100, ti_101, ti_103, ti_108, ti_110, ti_114, ti_127] at c153
                  refine ⟨fun c159 => ?_, fun c159 => ?_⟩
                  · try simp only [Int32.lt_iff_toInt_lt, Int32.le_iff_toInt_le, ← Int32.toInt_inj, Int32.toInt_toInt64, ti_m14, ti_m13, ti_m12, ti_m11, ti_m10, ti_m9, ti_m6, ti_m5, ti_m4, ti_m3, ti_m2, ti_m1, ti_0, ti_1, ti_2, ti_3, ti_4, ti_5, ti_6, ti_7, ti_8, ti_9, ti_10, ti_11, ti_12, ti_19, ti_20, ti_21, ti_44, ti_45, ti_48, ti_57, ti_59, ti_60, ti_98, ti_99, ti_100, ti_101, ti_103, ti_108, ti_110, ti_114, ti_127] at c159
                    subst hp
                    exact ⟨⟨hI478, hK480⟩, ⟨PT488, Pz29485⟩⟩
                  · try simp only [Int32.lt_iff_toInt_lt, Int32.le_iff_toInt_le, ← Int32.toInt_inj, Int32.toInt_toInt64, ti_m14, ti_m13, ti_m12, ti_m11, ti_m10, ti_m9, ti_m6, ti_m5, ti_m4, ti_m3, ti_m2, ti_m1, ti_0, ti_1, ti_2, ti_3, ti_4, ti_5, ti_6, ti_7, ti_8, ti_9, ti_10, ti_11, ti_12, ti_19, ti_20, ti_21, ti_44, ti_45, ti_48, ti_57, ti_59, ti_60, ti_98, ti_99, ti_100, ti_101, ti_103, ti_108, ti_110, ti_114, ti_127] at c159
                    refine ⟨_, s_X9_becomes  (a1) ((lg476 489 40)) ((lg476 489 41)) hI478 (by first | omega | (constructor <;> first | decide | omega | ((try simp only [Int32.lt_iff_toInt_lt, Int32.le_iff_toInt_le, ← Int32.toInt_inj, Int32.toInt_toInt64, ti_m14, ti_m13, ti_m12, ti_m11, ti_m10, ti_m9, ti_m6, ti_m5, ti_m4, ti_m3, ti_m2, ti_m1, ti_0, ti_1, ti_2, ti_3, ti_4, ti_5, ti_6, ti_7, ti_8, ti_9, ti_10, ti_11, ti_12, ti_19, ti_20, ti_21, ti_44, ti_45, ti_48, ti_57, ti_59, ti_60, ti_98, ti_99, ti_100, ti_101, ti_103, ti_108, ti_110, ti_114, ti_127]); omega))) (PQ487 (fun q => absurd ((congrArg Int32.toInt q).trans ti_0) (by omega)) (fun q => absurd ((congrArg Int32.toInt q).trans ti_9) (by omega))), ?_⟩
                    intro lg490 it491 hq
                    obtain ⟨⟨hI492, hK493⟩, ha496⟩ := hq
                    have hK494 : Kd (fun j => j = 502 ∨ j = 503 ∨ j = 504 ∨ j = 505 ∨ j = 506 ∨ j = 507) (fun k => k = 18 ∨ k = 19 ∨ k = 20 ∨ k = 28 ∨ k = 29 ∨ k = 36 ∨ k = 37 ∨ k = 38 ∨ k = 39 ∨ k = 40 ∨ k = 41) lg0 it0 lg490 it491 := kd_t hK480 hK493 (fun j hj => by first | omega | exact False.elim hj | (dsimp only at hj ⊢; omega)) (fun j hj => by first | omega | exact False.elim hj | (dsimp only at hj ⊢; omega))
                    try have e497 : (it491 489 0).toInt = (it477 489 0).toInt := congrArg Int32.toInt (hK493.2 0 (by first | decide | (dsimp only; decide) | omega | (dsimp only; omega))).2
                    have PN498 : N9 lg490 it491 := N9_c PN484 (hK493.1 507 (by decide) (by first | decide | (dsimp only; decide) | omega | (dsimp only; omega))).1 (hK493.2 0 (by first | decide | (dsimp only; decide) | omega | (dsimp only; omega))).2
                    have Pz29499 : ¬ lg490 489 29 = 0 := z_c (Pz29485) (hK493.2 29 (by first | decide | (dsimp only; decide) | omega | (dsimp only; omega))).1
                    have Pz39500 : ¬ lg490 489 39 = 0 := z_c (Pz39486) (hK493.2 39 (by first | decide | (dsimp only; decide) | omega | (dsimp only; omega))).1
                    have PQ501 : (¬ a1 = 0 → ¬ a1 = 9 → ¬ lg490 489 41 = 0) := fun h1 h2 => z_c (PQ487 h1 h2) (hK493.2 41 (by first | decide | (dsimp only; decide) | omega | (dsimp only; omega))).1
                    have PT502 : T9 lg490 it491 := ha496 PT488
                    subst hp
                    exact ⟨⟨hI492, hK494⟩, ⟨PT502, Pz29499⟩⟩
            · try simp only [Int32.lt_iff_toInt_lt, Int32.le_iff_toInt_le, ← Int32.toInt_inj, Int32.toInt_toInt64, ti_m14, ti_m13, ti_m12, ti_m11, ti_m10, ti_m9, ti_m6, ti_m5, ti_m4, ti_m3, ti_m2, ti_m1, ti_0, ti_1, ti_2, ti_3, ti_4, ti_5, ti_6, ti_7, ti_8, ti_9, ti_10, ti_11, ti_12, ti_19, ti_20, ti_21, ti_44, ti_45, ti_48, ti_57, ti_59, ti_60, ti_98, ti_99, ti_100, ti_101, ti_103, ti_108, ti_110, ti_114, ti_127] at c116
              unfold w_X9_does_b141
              refine ⟨_, s_X9_becomes  ((0 : Int32)) ((lg443 489 38)) ((lg443 489 39)) hI441 (by first | omega | (constructor <;> first | decide | omega | ((try simp only [Int32.lt_iff_toInt_lt, Int32.le_iff_toInt_le, ← Int32.toInt_inj, Int32.toInt_toInt64, ti_m14, ti_m13, ti_m12, ti_m11, ti_m10, ti_m9, ti_m6, ti_m5, ti_m4, ti_m3, ti_m2, ti_m1, ti_0, ti_1, ti_2, ti_3, ti_4, ti_5, ti_6, ti_7, ti_8, ti_9, ti_10, ti_11, ti_12, ti_19, ti_20, ti_21, ti_44, ti_45, ti_48, ti_57, ti_59, ti_60, ti_98, ti_99, ti_100, ti_101, ti_103, ti_108, ti_110, ti_114, ti_127]); omega))) (by assumption), ?_⟩
              intro lg504 it505 hq
              obtain ⟨⟨hI506, hK507⟩, ha510⟩ := hq
              have hK508 : Kd (fun j => j = 502 ∨ j = 503 ∨ j = 504 ∨ j = 505 ∨ j = 506 ∨ j = 507) (fun k => k = 18 ∨ k = 19 ∨ k = 20 ∨ k = 28 ∨ k = 29 ∨ k = 36 ∨ k = 37 ∨ k = 38 ∨ k = 39 ∨ k = 40 ∨ k = 41) lg0 it0 lg504 it505 := kd_t hK442 hK507 (fun j hj => by first | omega | exact False.elim hj | (dsimp only at hj ⊢; omega)) (fun j hj => by first | omega | exact False.elim hj | (dsimp only at hj ⊢; omega))
              try have e511 : (it505 489 0).toInt = (it444 489 0).toInt := congrArg Int32.toInt (hK507.2 0 (by first | decide | (dsimp only; decide) | omega | (dsimp only; omega))).2
              have PN512 : N9 lg504 it505 := N9_c hv76_2 (hK507.1 507 (by decide) (by first | decide | (dsimp only; decide) | omega | (dsimp only; omega))).1 (hK507.2 0 (by first | decide | (dsimp only; decide) | omega | (dsimp only; omega))).2
              have Pz29513 : ¬ lg504 489 29 = 0 := z_c (hv76_3) (hK507.2 29 (by first | decide | (dsimp only; decide) | omega | (dsimp only; omega))).1
              have Pz39514 : ¬ lg504 489 39 = 0 := z_c (hv76_4) (hK507.2 39 (by first | decide | (dsimp only; decide) | omega | (dsimp only; omega))).1
              have PQ515 : (¬ a1 = 0 → ¬ a1 = 9 → ¬ lg504 489 41 = 0) := fun h1 h2 => z_c (hv76_5 h1 h2) (hK507.2 41 (by first | decide | (dsimp only; decide) | omega | (dsimp only; omega))).1
              have PT516 : T9 lg504 it505 := ha510 hv76_1
              refine ⟨fun c153 => ?_, fun c153 => ?_⟩
              · try simp only [Int32.lt_iff_toInt_lt, Int32.le_iff_toInt_le, ← Int32.toInt_inj, Int32.toInt_toInt64, ti_m14, ti_m13, ti_m12, ti_m11, ti_m10, ti_m9, ti_m6, ti_m5, ti_m4, ti_m3, ti_m2, ti_m1, ti_0, ti_1, ti_2, ti_3, ti_4, ti_5, ti_6, ti_7, ti_8, ti_9, ti_10, ti_11, ti_12, ti_19, ti_20, ti_21, ti_44, ti_45, ti_48, ti_57, ti_59, ti_60, ti_98, ti_99, ti_100, ti_101, ti_103, ti_108, ti_110, ti_114, ti_127] at c153
                subst hp
                exact ⟨⟨hI506, hK508⟩, ⟨PT516, Pz29513⟩⟩
              · try simp only [Int32.lt_iff_toInt_lt, Int32.le_iff_toInt_le, ← Int32.toInt_inj, Int32.toInt_toInt64, ti_m14, ti_m13, ti_m12, ti_m11, ti_m10, ti_m9, ti_m6, ti_m5, ti_m4, ti_m3, ti_m2, ti_m1, ti_0, ti_1, ti_2, ti_3, ti_4, ti_5, ti_6, ti_7, ti_8, ti_9, ti_10, ti_11, ti_12, ti_19, ti_20, ti_21, ti_44, ti_45, ti_48, ti_57, ti_59, ti_60, ti_98, ti_99, ti_100, ti_101, ti_103, ti_108, ti_110, ti_114, ti_127] at c153
                refine ⟨fun c159 => ?_, fun c159 => ?_⟩
                · try simp only [Int32.lt_iff_toInt_lt, Int32.le_iff_toInt_le, ← Int32.toInt_inj, Int32.toInt_toInt64, ti_m14, ti_m13, ti_m12, ti_m11, ti_m10, ti_m9, ti_m6, ti_m5, ti_m4, ti_m3, ti_m2, ti_m1, ti_0, ti_1, ti_2, ti_3, ti_4, ti_5, ti_6, ti_7, ti_8, ti_9, ti_10, ti_11, ti_12, ti_19, ti_20, ti_21, ti_44, ti_45, ti_48, ti_57, ti_59, ti_60, ti_98, ti_99, ti_100, ti_101, ti_103, ti_108, ti_110, ti_114, ti_127] at c159
                  subst hp
                  exact ⟨⟨hI506, hK508⟩, ⟨PT516, Pz29513⟩⟩
                · try simp only [Int32.lt_iff_toInt_lt, Int32.le_iff_toInt_le, ← Int32.toInt_inj, Int32.toInt_toInt64, ti_m14, ti_m13, ti_m12, ti_m11, ti_m10, ti_m9, ti_m6, ti_m5, ti_m4, ti_m3, ti_m2, ti_m1, ti_0, ti_1, ti_2, ti_3, ti_4, ti_5, ti_6, ti_7, ti_8, ti_9, ti_10, ti_11, ti_12, ti_19, ti_20, ti_21, ti_44, ti_45, ti_48, ti_57, ti_59, ti_60, ti_98, ti_99, ti_100, ti_101, ti_103, ti_108, ti_110, ti_114, ti_127] at c159
                  refine ⟨_, s_X9_becomes  (a1) ((lg504 489 40)) ((lg504 489 41)) hI506 (by first | omega | (constructor <;> first | decide | omega | ((try simp only [Int32.lt_iff_toInt_lt, Int32.le_iff_toInt_le, ← Int32.toInt_inj, Int32.toInt_toInt64, ti_m14, ti_m13, ti_m12, ti_m11, ti_m10, ti_m9, ti_m6, ti_m5, ti_m4, ti_m3, ti_m2, ti_m1, ti_0, ti_1, ti_2, ti_3, ti_4, ti_5, ti_6, ti_7, ti_8, ti_9, ti_10, ti_11, ti_12, ti_19, ti_20, ti_21, ti_44, ti_45, ti_48, ti_57, ti_59, ti_60, ti_98, ti_99, ti_100, ti_101, ti_103, ti_108, ti_110, ti_114, ti_127]); omega))) (PQ515 (fun q => absurd ((congrArg Int32.toInt q).trans ti_0) (by omega)) (fun q => absurd ((congrArg Int32.toInt q).trans ti_9) (by omega))), ?_⟩
                  intro lg518 it519 hq
                  obtain ⟨⟨hI520, hK521⟩, ha524⟩ := hq
                  have hK522 : Kd (fun j => j = 502 ∨ j = 503 ∨ j = 504 ∨ j = 505 ∨ j = 506 ∨ j = 507) (fun k => k = 18 ∨ k = 19 ∨ k = 20 ∨ k = 28 ∨ k = 29 ∨ k = 36 ∨ k = 37 ∨ k = 38 ∨ k = 39 ∨ k = 40 ∨ k = 41) lg0 it0 lg518 it519 := kd_t hK508 hK521 (fun j hj => by first | omega | exact False.elim hj | (dsimp only at hj ⊢; omega)) (fun j hj => by first | omega | exact False.elim hj | (dsimp only at hj ⊢; omega))
                  try have e525 : (it519 489 0).toInt = (it505 489 0).toInt := congrArg Int32.toInt (hK521.2 0 (by first | decide | (dsimp only; decide) | omega | (dsimp only; omega))).2
                  have PN526 : N9 lg518 it519 := N9_c PN512 (hK521.1 507 (by decide) (by first | decide | (dsimp only; decide) | omega | (dsimp only; omega))).1 (hK521.2 0 (by first | decide | (dsimp only; decide) | omega | (dsimp only; omega))).2
                  have Pz29527 : ¬ lg518 489 29 = 0 := z_c (Pz29513) (hK521.2 29 (by first | decide | (dsimp only; decide) | omega | (dsimp only; omega))).1
                  have Pz39528 : ¬ lg518 489 39 = 0 := z_c (Pz39514) (hK521.2 39 (by first | decide | (dsimp only; decide) | omega | (dsimp only; omega))).1
                  have PQ529 : (¬ a1 = 0 → ¬ a1 = 9 → ¬ lg518 489 41 = 0) := fun h1 h2 => z_c (PQ515 h1 h2) (hK521.2 41 (by first | decide | (dsimp only; decide) | omega | (dsimp only; omega))).1
                  have PT530 : T9 lg518 it519 := ha524 PT516
                  subst hp
                  exact ⟨⟨hI520, hK522⟩, ⟨PT530, Pz29527⟩⟩
          · try simp only [Int32.lt_iff_toInt_lt, Int32.le_iff_toInt_le, ← Int32.toInt_inj, Int32.toInt_toInt64, ti_m14, ti_m13, ti_m12, ti_m11, ti_m10, ti_m9, ti_m6, ti_m5, ti_m4, ti_m3, ti_m2, ti_m1, ti_0, ti_1, ti_2, ti_3, ti_4, ti_5, ti_6, ti_7, ti_8, ti_9, ti_10, ti_11, ti_12, ti_19, ti_20, ti_21, ti_44, ti_45, ti_48, ti_57, ti_59, ti_60, ti_98, ti_99, ti_100, ti_101, ti_103, ti_108, ti_110, ti_114, ti_127] at c81
            have hi532 : vp_in x2 6 := vp_of (by first | omega | ((try simp only [Int32.lt_iff_toInt_lt, Int32.le_iff_toInt_le, ← Int32.toInt_inj, Int32.toInt_toInt64, ti_m14, ti_m13, ti_m12, ti_m11, ti_m10, ti_m9, ti_m6, ti_m5, ti_m4, ti_m3, ti_m2, ti_m1, ti_0, ti_1, ti_2, ti_3, ti_4, ti_5, ti_6, ti_7, ti_8, ti_9, ti_10, ti_11, ti_12, ti_19, ti_20, ti_21, ti_44, ti_45, ti_48, ti_57, ti_59, ti_60, ti_98, ti_99, ti_100, ti_101, ti_103, ti_108, ti_110, ti_114, ti_127]); omega) | (split <;> omega)) (by first | omega | ((try simp only [Int32.lt_iff_toInt_lt, Int32.le_iff_toInt_le, ← Int32.toInt_inj, Int32.toInt_toInt64, ti_m14, ti_m13, ti_m12, ti_m11, ti_m10, ti_m9, ti_m6, ti_m5, ti_m4, ti_m3, ti_m2, ti_m1, ti_0, ti_1, ti_2, ti_3, ti_4, ti_5, ti_6, ti_7, ti_8, ti_9, ti_10, ti_11, ti_12, ti_19, ti_20, ti_21, ti_44, ti_45, ti_48, ti_57, ti_59, ti_60, ti_98, ti_99, ti_100, ti_101, ti_103, ti_108, ti_110, ti_114, ti_127]); omega) | (split <;> omega))
            refine ⟨hi532, ?_⟩
            have hz533 := vlt hi532
            have hi534 : vp_in x2 6 := vp_of (by first | omega | ((try simp only [Int32.lt_iff_toInt_lt, Int32.le_iff_toInt_le, ← Int32.toInt_inj, Int32.toInt_toInt64, ti_m14, ti_m13, ti_m12, ti_m11, ti_m10, ti_m9, ti_m6, ti_m5, ti_m4, ti_m3, ti_m2, ti_m1, ti_0, ti_1, ti_2, ti_3, ti_4, ti_5, ti_6, ti_7, ti_8, ti_9, ti_10, ti_11, ti_12, ti_19, ti_20, ti_21, ti_44, ti_45, ti_48, ti_57, ti_59, ti_60, ti_98, ti_99, ti_100, ti_101, ti_103, ti_108, ti_110, ti_114, ti_127]); omega) | (split <;> omega)) (by first | omega | ((try simp only [Int32.lt_iff_toInt_lt, Int32.le_iff_toInt_le, ← Int32.toInt_inj, Int32.toInt_toInt64, ti_m14, ti_m13, ti_m12, ti_m11, ti_m10, ti_m9, ti_m6, ti_m5, ti_m4, ti_m3, ti_m2, ti_m1, ti_0, ti_1, ti_2, ti_3, ti_4, ti_5, ti_6, ti_7, ti_8, ti_9, ti_10, ti_11, ti_12, ti_19, ti_20, ti_21, ti_44, ti_45, ti_48, ti_57, ti_59, ti_60, ti_98, ti_99, ti_100, ti_101, ti_103, ti_108, ti_110, ti_114, ti_127]); omega) | (split <;> omega))
            refine ⟨hi534, ?_⟩
            have hz535 := vlt hi534
            intro lg536 em537
            have hI538 : I9 lg536 it444 := by rw [em537]; exact i9_l hI441 (by decide) (by decide) (by decide)
            have hK539 : Kd (fun j => j = 502 ∨ j = 503 ∨ j = 504 ∨ j = 505 ∨ j = 506 ∨ j = 507) (fun k => k = 18 ∨ k = 19 ∨ k = 20 ∨ k = 28 ∨ k = 29 ∨ k = 36 ∨ k = 37 ∨ k = 38 ∨ k = 39 ∨ k = 40 ∨ k = 41) lg0 it0 lg536 it444 := by rw [em537]; exact kd_lr (by decide) (by first | decide | (dsimp only; decide) | omega | (dsimp only; omega)) hK442
            have PT540 : T9 lg536 it444 := T9_c hv76_1 (by rw [em537]; exact u2_row (by decide)) (by rw [em537]; exact u2_row (by decide)) rfl rfl
            have PN541 : N9 lg536 it444 := N9_c hv76_2 (by rw [em537]; exact u2_row (by decide)) rfl
            have Pz29542 : ¬ lg536 489 29 = 0 := z_c (hv76_3) (by rw [em537]; exact congrFun (u2_row (by decide)) 29)
            have Pz39543 : ¬ lg536 489 39 = 0 := z_c (hv76_4) (by rw [em537]; exact congrFun (u2_row (by decide)) 39)
            have PQ544 : (¬ a1 = 0 → ¬ a1 = 9 → ¬ lg536 489 41 = 0) := fun h1 h2 => z_c (hv76_5 h1 h2) (by rw [em537]; exact congrFun (u2_row (by decide)) 41)
            have hi545 : vp_in x2 6 := vp_of (by first | omega | ((try simp only [Int32.lt_iff_toInt_lt, Int32.le_iff_toInt_le, ← Int32.toInt_inj, Int32.toInt_toInt64, ti_m14, ti_m13, ti_m12, ti_m11, ti_m10, ti_m9, ti_m6, ti_m5, ti_m4, ti_m3, ti_m2, ti_m1, ti_0, ti_1, ti_2, ti_3, ti_4, ti_5, ti_6, ti_7, ti_8, ti_9, ti_10, ti_11, ti_12, ti_19, ti_20, ti_21, ti_44, ti_45, ti_48, ti_57, ti_59, ti_60, ti_98, ti_99, ti_100, ti_101, ti_103, ti_108, ti_110, ti_114, ti_127]); omega) | (split <;> omega)) (by first | omega | ((try simp only [Int32.lt_iff_toInt_lt, Int32.le_iff_toInt_le, ← Int32.toInt_inj, Int32.toInt_toInt64, ti_m14, ti_m13, ti_m12, ti_m11, ti_m10, ti_m9, ti_m6, ti_m5, ti_m4, ti_m3, ti_m2, ti_m1, ti_0, ti_1, ti_2, ti_3, ti_4, ti_5, ti_6, ti_7, ti_8, ti_9, ti_10, ti_11, ti_12, ti_19, ti_20, ti_21, ti_44, ti_45, ti_48, ti_57, ti_59, ti_60, ti_98, ti_99, ti_100, ti_101, ti_103, ti_108, ti_110, ti_114, ti_127]); omega) | (split <;> omega))
            refine ⟨hi545, ?_⟩
            have hz546 := vlt hi545
            have hi547 : vp_in x2 6 := vp_of (by first | omega | ((try simp only [Int32.lt_iff_toInt_lt, Int32.le_iff_toInt_le, ← Int32.toInt_inj, Int32.toInt_toInt64, ti_m14, ti_m13, ti_m12, ti_m11, ti_m10, ti_m9, ti_m6, ti_m5, ti_m4, ti_m3, ti_m2, ti_m1, ti_0, ti_1, ti_2, ti_3, ti_4, ti_5, ti_6, ti_7, ti_8, ti_9, ti_10, ti_11, ti_12, ti_19, ti_20, ti_21, ti_44, ti_45, ti_48, ti_57, ti_59, ti_60, ti_98, ti_99, ti_100, ti_101, ti_103, ti_108, ti_110, ti_114, ti_127]); omega) | (split <;> omega)) (by first | omega | ((try simp only [Int32.lt_iff_toInt_lt, Int32.le_iff_toInt_le, ← Int32.toInt_inj, Int32.toInt_toInt64, ti_m14, ti_m13, ti_m12, ti_m11, ti_m10, ti_m9, ti_m6, ti_m5, ti_m4, ti_m3, ti_m2, ti_m1, ti_0, ti_1, ti_2, ti_3, ti_4, ti_5, ti_6, ti_7, ti_8, ti_9, ti_10, ti_11, ti_12, ti_19, ti_20, ti_21, ti_44, ti_45, ti_48, ti_57, ti_59, ti_60, ti_98, ti_99, ti_100, ti_101, ti_103, ti_108, ti_110, ti_114, ti_127]); omega) | (split <;> omega))
            refine ⟨hi547, ?_⟩
            have hz548 := vlt hi547
            intro lg549 em550
            have hI551 : I9 lg549 it444 := by rw [em550]; exact i9_l hI538 (by decide) (by decide) (by decide)
            have hK552 : Kd (fun j => j = 502 ∨ j = 503 ∨ j = 504 ∨ j = 505 ∨ j = 506 ∨ j = 507) (fun k => k = 18 ∨ k = 19 ∨ k = 20 ∨ k = 28 ∨ k = 29 ∨ k = 36 ∨ k = 37 ∨ k = 38 ∨ k = 39 ∨ k = 40 ∨ k = 41) lg0 it0 lg549 it444 := by rw [em550]; exact kd_lr (by decide) (by first | decide | (dsimp only; decide) | omega | (dsimp only; omega)) hK539
            have PN553 : N9 lg549 it444 := N9_c PN541 (by rw [em550]; exact u2_row (by decide)) rfl
            have Pz29554 : ¬ lg549 489 29 = 0 := z_c (Pz29542) (by rw [em550]; exact congrFun (u2_row (by decide)) 29)
            have Pz39555 : ¬ lg549 489 39 = 0 := z_c (Pz39543) (by rw [em550]; exact congrFun (u2_row (by decide)) 39)
            have PQ556 : (¬ a1 = 0 → ¬ a1 = 9 → ¬ lg549 489 41 = 0) := fun h1 h2 => z_c (PQ544 h1 h2) (by rw [em550]; exact congrFun (u2_row (by decide)) 41)
            have PT557 : T9 lg549 it444 := by rw [em550]; exact T9_w (Or.inl rfl) PT540 ((PN541 (x2).toNatClampNeg (by have z1 := cl32 (i := x2) (by omega); omega) (by have z1 := cl32 (i := x2) (by omega); omega)))
            try have f558 : ((x2 + 1) : Int32).toInt = (x2).toInt + 1 := ad32 (a := (x2).toInt) (b := 1) (rfl) (ti_1) (by omega) (by omega)
            exact ih76 ((x2 + 1)) _ _ hI551 hK552 (by refine ⟨?_, ?_, ?_, ?_, ?_, ?_, ?_⟩ <;> first | exact Nx_0 | omega | assumption | exact Or.inl rfl | exact Or.inr rfl | exact i8_1 (by assumption) (by assumption) | decide) (by omega)
      have t559 := ti_0
      exact ⟨_, lp76 ((7 - ((0 : Int32)).toInt).toNat + 1) ((0 : Int32)) _ _ hI432 hK433 (by refine ⟨?_, ?_, ?_, ?_, ?_, ?_, ?_⟩ <;> first | exact Nx_0 | omega | assumption | exact Or.inl rfl | exact Or.inr rfl | exact i8_1 (by assumption) (by assumption) | decide) (Nat.lt_succ_self _)⟩
    · try simp only [Int32.lt_iff_toInt_lt, Int32.le_iff_toInt_le, ← Int32.toInt_inj, Int32.toInt_toInt64, ti_m14, ti_m13, ti_m12, ti_m11, ti_m10, ti_m9, ti_m6, ti_m5, ti_m4, ti_m3, ti_m2, ti_m1, ti_0, ti_1, ti_2, ti_3, ti_4, ti_5, ti_6, ti_7, ti_8, ti_9, ti_10, ti_11, ti_12, ti_19, ti_20, ti_21, ti_44, ti_45, ti_48, ti_57, ti_59, ti_60, ti_98, ti_99, ti_100, ti_101, ti_103, ti_108, ti_110, ti_114, ti_127] at c54
      subst hp
      exact ⟨⟨hI405, hK407⟩, ⟨PT412, Pz29413⟩⟩
theorem s_X9_keeps (a1 : Int32) {lg0 : LGt} {it0 : ITt} (hI : I9 lg0 it0) (hs : (it0 489 42).toInt < 20) (hT : T9 lg0 it0) (h29 : ¬ lg0 489 29 = 0) (hB : B9 lg0 it0) : w_X9_keeps a1 (fun (lg' : LGt) (it' : ITt) => (I9 lg' it' ∧ Kd (fun j => j = 508 ∨ j = 509 ∨ j = 510 ∨ j = 511 ∨ j = 512) (fun k => k = 42) lg0 it0 lg' it') ∧ (B9 lg' it' ∧ (it' 489 42).toInt = (it0 489 42).toInt + 1)) lg0 it0 := by
  generalize hp : (fun (lg' : LGt) (it' : ITt) => (I9 lg' it' ∧ Kd (fun j => j = 508 ∨ j = 509 ∨ j = 510 ∨ j = 511 ∨ j = 512) (fun k => k = 42) lg0 it0 lg' it') ∧ (B9 lg' it' ∧ (it' 489 42).toInt = (it0 489 42).toInt + 1)) = Pz
  have f42 := i9_f hI (j := 489) (k := 42) rfl
  have f0 := i9_f hI (j := 489) (k := 0) rfl
  have hS := cl32 (i := it0 489 42) f42.1
  have lp : ∀ (n : Nat) (x : Int32) (lg : LGt) (it : ITt), I9 lg it → Kd (fun j => j = 508 ∨ j = 509 ∨ j = 510 ∨ j = 511 ∨ j = 512) (fun k => k = 42) lg0 it0 lg it → it 489 42 = it0 489 42 → ((∀ s : Nat, s < 20 → (s : Int) < (it0 489 42).toInt → ¬ lg 510 s = 0 ∧ ∀ i : Nat, i < 6 → (i : Int) < (it0 489 0).toInt → ¬ lg 512 (12 * s + i) = 0 ∧ ¬ lg 512 (12 * s + 6 + i) = 0) ∧ ¬ lg 510 (it0 489 42).toNatClampNeg = 0 ∧ ∀ i : Nat, i < 6 → (i : Int) < x.toInt → ¬ lg 512 (12 * (it0 489 42).toNatClampNeg + i) = 0 ∧ ¬ lg 512 (12 * (it0 489 42).toNatClampNeg + 6 + i) = 0) → 0 ≤ x.toInt → (7 - x.toInt).toNat < n → w_X9_keeps_b38 a1 Pz n x lg it := by
    intro n
    induction n with
    | zero => intro x lg it _ _ _ _ _ hn; exact absurd hn (Nat.not_lt_zero _)
    | succ n ih =>
      intro x lg it hJ hK h42 hC hx hn
      have e0 : it 489 0 = it0 489 0 := (hK.2 0 (by first | decide | (dsimp only; decide) | omega | (dsimp only; omega))).2
      unfold w_X9_keeps_b38
      refine ⟨fun c => ?_, fun c => ?_⟩
      · rw [Int32.le_iff_toInt_le, e0] at c
        intro it12 m12
        subst hp
        have f1 : (it 489 42 + 1).toInt = (it0 489 42).toInt + 1 := ad32 (by rw [h42]) ti_1 (by omega) (by omega)
        refine ⟨⟨?_, ?_⟩, ?_, ?_⟩
        · rw [m12]; exact i9_u hJ (ok9_b (a := 0) (b := 20) rfl (by omega)) (by decide) (fun _ => by decide)
        · rw [m12]; exact kd_uf (by first | decide | (dsimp only; decide) | omega | (dsimp only; omega)) hK
        · intro s h1 h2
          rw [m12, u2_eq, f1] at h2
          have e2 : it12 489 0 = it0 489 0 := by rw [m12, u2_ne (by decide)]; exact e0
          rw [e2]
          by_cases hq : (s : Int) < (it0 489 42).toInt
          · exact hC.1 s h1 hq
          · have hq2 : s = (it0 489 42).toNatClampNeg := by omega
            subst hq2
            exact ⟨hC.2.1, fun i i1 i2 => hC.2.2 i i1 (by omega)⟩
        · rw [m12, u2_eq]; exact f1
      · rw [Int32.le_iff_toInt_le, e0] at c
        have hv : vp_in x 6 := vp_of hx (by omega)
        have hk := cl32 hx
        have hT2 : T9 lg it := T9_c hT (hK.1 503 (by decide) (by first | decide | (dsimp only; decide) | omega | (dsimp only; omega))).1 (hK.1 505 (by decide) (by first | decide | (dsimp only; decide) | omega | (dsimp only; omega))).1 (hK.1 501 (by decide) (by first | decide | (dsimp only; decide) | omega | (dsimp only; omega))).2 e0
        have ht := (hT2 x.toNatClampNeg (vlt hv) (by rw [e0]; omega)).1
        rw [h42]
        have g1 : ((12 : Int32) * (it0 489 42)).toInt = 12 * (it0 489 42).toInt := ml32 ti_12 rfl (by omega) (by omega)
        have g2 : ((12 : Int32) * (it0 489 42) + x).toInt = 12 * (it0 489 42).toInt + x.toInt := ad32 g1 rfl (by omega) (by omega)
        have g3 : ((12 : Int32) * (it0 489 42) + 6).toInt = 12 * (it0 489 42).toInt + 6 := ad32 g1 ti_6 (by omega) (by omega)
        have g4 : ((12 : Int32) * (it0 489 42) + 6 + x).toInt = 12 * (it0 489 42).toInt + 6 + x.toInt := ad32 g3 rfl (by omega) (by omega)
        have j1 := cl32 (i := (12 : Int32) * (it0 489 42) + x) (by omega)
        have j2 := cl32 (i := (12 : Int32) * (it0 489 42) + 6 + x) (by omega)
        have v1 : vp_in ((12 : Int32) * (it0 489 42) + x) 240 := vp_of (by omega) (by omega)
        have v2 : vp_in ((12 : Int32) * (it0 489 42) + 6 + x) 240 := vp_of (by omega) (by omega)
        refine ⟨hv, v1, fun lg16 m16 => ⟨hv, v1, fun lg20 m20 => ⟨hv, v2, fun lg24 m24 => ⟨hv, v2, fun lg28 m28 => ?_⟩⟩⟩⟩
        have J : I9 lg28 it := by rw [m28, m24, m20, m16]; exact i9_l (i9_l (i9_l (i9_l hJ (by decide) (by decide) (by decide)) (by decide) (by decide) (by decide)) (by decide) (by decide) (by decide)) (by decide) (by decide) (by decide)
        have K : Kd (fun j => j = 508 ∨ j = 509 ∨ j = 510 ∨ j = 511 ∨ j = 512) (fun k => k = 42) lg0 it0 lg28 it := by rw [m28, m24, m20, m16]; exact kd_lr (by decide) (by first | decide | (dsimp only; decide) | omega | (dsimp only; omega)) (kd_lr (by decide) (by first | decide | (dsimp only; decide) | omega | (dsimp only; omega)) (kd_lr (by decide) (by first | decide | (dsimp only; decide) | omega | (dsimp only; omega)) (kd_lr (by decide) (by first | decide | (dsimp only; decide) | omega | (dsimp only; omega)) hK)))
        have n1 : ¬ lg16 503 x.toNatClampNeg = 0 := by rw [m16, u2_row (by decide)]; exact ht.1
        have n2 : ¬ lg24 505 x.toNatClampNeg = 0 := by rw [m24, u2_row (by decide), m20, u2_row (by decide), m16, u2_row (by decide)]; exact ht.2
        have D : ∀ q : Nat, (¬ lg 512 q = 0 ∨ q = ((12 : Int32) * (it0 489 42) + x).toNatClampNeg ∨ q = ((12 : Int32) * (it0 489 42) + 6 + x).toNatClampNeg) → ¬ lg28 512 q = 0 := by
          intro q hq
          rw [m28]
          by_cases q2 : q = ((12 : Int32) * (it0 489 42) + 6 + x).toNatClampNeg
          · rw [q2, u2_eq]; exact n2
          · rw [u2_ne q2, m24, u2_row (by decide), m20]
            by_cases q1 : q = ((12 : Int32) * (it0 489 42) + x).toNatClampNeg
            · rw [q1, u2_eq]; exact n1
            · rw [u2_ne q1, m16, u2_row (by decide)]
              rcases hq with hq | hq | hq
              · exact hq
              · exact absurd hq q1
              · exact absurd hq q2
        have r510 : lg28 510 = lg 510 := by rw [m28, u2_row (by decide), m24, u2_row (by decide), m20, u2_row (by decide), m16, u2_row (by decide)]
        have fx : (x + 1).toInt = x.toInt + 1 := ad32 rfl ti_1 (by omega) (by omega)
        refine ih (x + 1) lg28 it J K h42 ⟨fun s h1 h2 => ?_, ?_, fun i h1 h2 => ?_⟩ (by omega) (by omega)
        · rw [r510]
          obtain ⟨p, q⟩ := hC.1 s h1 h2
          exact ⟨p, fun i i1 i2 => ⟨D _ (Or.inl (q i i1 i2).1), D _ (Or.inl (q i i1 i2).2)⟩⟩
        · rw [r510]; exact hC.2.1
        · by_cases hi : (i : Int) < x.toInt
          · exact ⟨D _ (Or.inl (hC.2.2 i h1 hi).1), D _ (Or.inl (hC.2.2 i h1 hi).2)⟩
          · exact ⟨D _ (Or.inr (Or.inl (by omega))), D _ (Or.inr (Or.inr (by omega)))⟩
  unfold w_X9_keeps
  have hv0 : vp_in (it0 489 42) 20 := vp_of f42.1 (by omega)
  refine ⟨hv0, fun it1 m1 => ?_⟩
  have e1 : it1 489 42 = it0 489 42 := by rw [m1]; exact congrFun (u2_row (by decide)) 42
  rw [e1]
  refine ⟨hv0, fun lg3 m3 => ⟨hv0, fun lg5 m5 => ?_⟩⟩
  have J : I9 lg5 it1 := by rw [m5, m3, m1]; exact i9_l (i9_l (i9_u hI (ok9_n rfl) (by decide) (fun q => absurd q (by decide))) (by decide) (by decide) (by decide)) (by decide) (by decide) (by decide)
  have K : Kd (fun j => j = 508 ∨ j = 509 ∨ j = 510 ∨ j = 511 ∨ j = 512) (fun k => k = 42) lg0 it0 lg5 it1 := by rw [m5, m3, m1]; exact kd_lr (by decide) (by first | decide | (dsimp only; decide) | omega | (dsimp only; omega)) (kd_lr (by decide) (by first | decide | (dsimp only; decide) | omega | (dsimp only; omega)) (kd_ur (by decide) (by first | decide | (dsimp only; decide) | omega | (dsimp only; omega)) kd_r))
  have n1 : ¬ lg3 489 29 = 0 := by rw [m3, u2_row (by decide)]; exact h29
  have r512 : lg5 512 = lg0 512 := by rw [m5, u2_row (by decide), m3, u2_row (by decide)]
  refine ⟨_, lp ((7 - (0 : Int32).toInt).toNat + 1) 0 lg5 it1 J K e1 ⟨fun s h1 h2 => ?_, ?_, fun i h1 h2 => ?_⟩ (by rw [ti_0]; omega) (Nat.lt_succ_self _)⟩
  · obtain ⟨p, q⟩ := hB s h1 h2
    rw [r512]
    refine ⟨?_, q⟩
    rw [m5]
    by_cases hq : s = (it0 489 42).toNatClampNeg
    · rw [hq, u2_eq]; exact n1
    · rw [u2_ne hq, m3, u2_row (by decide)]; exact p
  · rw [m5, u2_eq]; exact n1
  · rw [ti_0] at h2; omega
set_option maxRecDepth 100000 in
theorem s_X9_goesOn (a1 : Int32) {lg0 : LGt} {it0 : ITt} (hI : I9 lg0 it0) (hT : T9 lg0 it0) (ha : a1.toInt ≤ 20) : w_X9_goesOn a1 (fun (lg' : LGt) (it' : ITt) => (I9 lg' it' ∧ Kd (fun j => j = 502 ∨ j = 503 ∨ j = 504 ∨ j = 505 ∨ j = 506 ∨ j = 507 ∨ j = 508 ∨ j = 509 ∨ j = 510 ∨ j = 511 ∨ j = 512) (fun k => k = 18 ∨ k = 19 ∨ k = 20 ∨ k = 28 ∨ k = 29 ∨ k = 33 ∨ k = 34 ∨ k = 35 ∨ k = 36 ∨ k = 37 ∨ k = 38 ∨ k = 39 ∨ k = 40 ∨ k = 41 ∨ k = 42 ∨ k = 43) lg0 it0 lg' it') ∧ (B9 lg' it' ∧ T9 lg' it'))  lg0 it0 := by
  have hb_a1 := And.intro a1.le_toInt a1.toInt_lt
  have hKr : Kd (fun j => j = 502 ∨ j = 503 ∨ j = 504 ∨ j = 505 ∨ j = 506 ∨ j = 507 ∨ j = 508 ∨ j = 509 ∨ j = 510 ∨ j = 511 ∨ j = 512) (fun k => k = 18 ∨ k = 19 ∨ k = 20 ∨ k = 28 ∨ k = 29 ∨ k = 33 ∨ k = 34 ∨ k = 35 ∨ k = 36 ∨ k = 37 ∨ k = 38 ∨ k = 39 ∨ k = 40 ∨ k = 41 ∨ k = 42 ∨ k = 43) lg0 it0 lg0 it0 := kd_r
  generalize hp : (fun (lg' : LGt) (it' : ITt) => (I9 lg' it' ∧ Kd (fun j => j = 502 ∨ j = 503 ∨ j = 504 ∨ j = 505 ∨ j = 506 ∨ j = 507 ∨ j = 508 ∨ j = 509 ∨ j = 510 ∨ j = 511 ∨ j = 512) (fun k => k = 18 ∨ k = 19 ∨ k = 20 ∨ k = 28 ∨ k = 29 ∨ k = 33 ∨ k = 34 ∨ k = 35 ∨ k = 36 ∨ k = 37 ∨ k = 38 ∨ k = 39 ∨ k = 40 ∨ k = 41 ∨ k = 42 ∨ k = 43) lg0 it0 lg' it') ∧ (B9 lg' it' ∧ T9 lg' it')) = Pz
  unfold w_X9_goesOn
  have t0 := ti_0
  have t9 := ti_9
  have tm1 := ti_m1
  intro lg52 em53
  have hI54 : I9 lg52 it0 := by rw [em53]; exact i9_l hI (by decide) (by decide) (by decide)
  have hK55 : Kd (fun j => j = 502 ∨ j = 503 ∨ j = 504 ∨ j = 505 ∨ j = 506 ∨ j = 507 ∨ j = 508 ∨ j = 509 ∨ j = 510 ∨ j = 511 ∨ j = 512) (fun k => k = 18 ∨ k = 19 ∨ k = 20 ∨ k = 28 ∨ k = 29 ∨ k = 33 ∨ k = 34 ∨ k = 35 ∨ k = 36 ∨ k = 37 ∨ k = 38 ∨ k = 39 ∨ k = 40 ∨ k = 41 ∨ k = 42 ∨ k = 43) lg0 it0 lg52 it0 := by rw [em53]; exact kd_lf (by first | decide | (dsimp only; decide) | omega | (dsimp only; omega)) hKr
  have PT56 : T9 lg52 it0 := T9_c hT (by rw [em53]; exact u2_row (by decide)) (by rw [em53]; exact u2_row (by decide)) rfl rfl
  intro lg57 em58
  have hI59 : I9 lg57 it0 := by rw [em58]; exact i9_l hI54 (by decide) (by decide) (by decide)
  have hK60 : Kd (fun j => j = 502 ∨ j = 503 ∨ j = 504 ∨ j = 505 ∨ j = 506 ∨ j = 507 ∨ j = 508 ∨ j = 509 ∨ j = 510 ∨ j = 511 ∨ j = 512) (fun k => k = 18 ∨ k = 19 ∨ k = 20 ∨ k = 28 ∨ k = 29 ∨ k = 33 ∨ k = 34 ∨ k = 35 ∨ k = 36 ∨ k = 37 ∨ k = 38 ∨ k = 39 ∨ k = 40 ∨ k = 41 ∨ k = 42 ∨ k = 43) lg0 it0 lg57 it0 := by rw [em58]; exact kd_lf (by first | decide | (dsimp only; decide) | omega | (dsimp only; omega)) hK55
  have PT61 : T9 lg57 it0 := T9_c PT56 (by rw [em58]; exact u2_row (by decide)) (by rw [em58]; exact u2_row (by decide)) rfl rfl
  have Pz62 : ¬ lg57 489 29 = 0 := by rw [em58, u2_eq]; exact (by decide)
  intro it63 em64
  have hI65 : I9 lg57 it63 := by rw [em64]; exact i9_u hI59 (ok9_b (a := 0) (b := 20) rfl (by first | decide | ((try simp only [Int32.lt_iff_toInt_lt, Int32.le_iff_toInt_le, ← Int32.toInt_inj, Int32.toInt_toInt64, ti_m14, ti_m13, ti_m12, ti_m11, ti_m10, ti_m9, ti_m6, ti_m5, ti_m4, ti_m3, ti_m2, ti_m1, ti_0, ti_1, ti_2, ti_3, ti_4, ti_5, ti_6, ti_7, ti_8, ti_9, ti_10, ti_11, ti_12, ti_19, ti_20, ti_21, ti_44, ti_45, ti_48, ti_57, ti_59, ti_60, ti_98, ti_99, ti_100, ti_101, ti_103, ti_108, ti_110, ti_114, ti_127]); omega) | (split <;> (try simp only [Int32.lt_iff_toInt_lt, Int32.le_iff_toInt_le, ← Int32.toInt_inj, Int32.toInt_toInt64, ti_m14, ti_m13, ti_m12, ti_m11, ti_m10, ti_m9, ti_m6, ti_m5, ti_m4, ti_m3, ti_m2, ti_m1, ti_0, ti_1, ti_2, ti_3, ti_4, ti_5, ti_6, ti_7, ti_8, ti_9, ti_10, ti_11, ti_12, ti_19, ti_20, ti_21, ti_44, ti_45, ti_48, ti_57, ti_59, ti_60, ti_98, ti_99, ti_100, ti_101, ti_103, ti_108, ti_110, ti_114, ti_127]) <;> omega))) (by decide) (fun _ => by decide)
  have hK66 : Kd (fun j => j = 502 ∨ j = 503 ∨ j = 504 ∨ j = 505 ∨ j = 506 ∨ j = 507 ∨ j = 508 ∨ j = 509 ∨ j = 510 ∨ j = 511 ∨ j = 512) (fun k => k = 18 ∨ k = 19 ∨ k = 20 ∨ k = 28 ∨ k = 29 ∨ k = 33 ∨ k = 34 ∨ k = 35 ∨ k = 36 ∨ k = 37 ∨ k = 38 ∨ k = 39 ∨ k = 40 ∨ k = 41 ∨ k = 42 ∨ k = 43) lg0 it0 lg57 it63 := by rw [em64]; exact kd_uf (by first | decide | (dsimp only; decide) | omega | (dsimp only; omega)) hK60
  have e67 : (it63 489 0).toInt = (it0 489 0).toInt := by rw [em64]; exact congrArg Int32.toInt (u2_ne (by decide))
  have PT69 : T9 lg57 it63 := T9_c PT61 rfl rfl (by rw [em64]; exact u2_row (by decide)) (by rw [em64]; exact u2_ne (by decide))
  have Pz2970 : ¬ lg57 489 29 = 0 := z_c (Pz62) rfl
  have e71 : (it63 489 42).toInt = (0 : Int32).toInt := by rw [em64]; exact congrArg Int32.toInt u2_eq
  have PB72 : B9 lg57 it63 := B9_0 (by rw [em64]; exact u2_eq)
  intro it73 em74
  have hI75 : I9 lg57 it73 := by rw [em74]; exact i9_u hI65 (ok9_n rfl) (by decide) (fun _ => by decide)
  have hK76 : Kd (fun j => j = 502 ∨ j = 503 ∨ j = 504 ∨ j = 505 ∨ j = 506 ∨ j = 507 ∨ j = 508 ∨ j = 509 ∨ j = 510 ∨ j = 511 ∨ j = 512) (fun k => k = 18 ∨ k = 19 ∨ k = 20 ∨ k = 28 ∨ k = 29 ∨ k = 33 ∨ k = 34 ∨ k = 35 ∨ k = 36 ∨ k = 37 ∨ k = 38 ∨ k = 39 ∨ k = 40 ∨ k = 41 ∨ k = 42 ∨ k = 43) lg0 it0 lg57 it73 := by rw [em74]; exact kd_uf (by first | decide | (dsimp only; decide) | omega | (dsimp only; omega)) hK66
  have e77 : (it73 489 0).toInt = (it63 489 0).toInt := by rw [em74]; exact congrArg Int32.toInt (u2_ne (by decide))
  have e78 : (it73 489 42).toInt = (it63 489 42).toInt := by rw [em74]; exact congrArg Int32.toInt (u2_ne (by decide))
  have PT79 : T9 lg57 it73 := T9_c PT69 rfl rfl (by rw [em74]; exact u2_row (by decide)) (by rw [em74]; exact u2_ne (by decide))
  have Pz2980 : ¬ lg57 489 29 = 0 := z_c (Pz2970) rfl
  have PB81 : B9 lg57 it73 := B9_c PB72 rfl rfl (by rw [em74]; exact u2_ne (by decide)) (by rw [em74]; exact u2_ne (by decide))
  have lp20 : ∀ (n : Nat)  (lg : LGt) (it : ITt), I9 lg it → Kd (fun j => j = 502 ∨ j = 503 ∨ j = 504 ∨ j = 505 ∨ j = 506 ∨ j = 507 ∨ j = 508 ∨ j = 509 ∨ j = 510 ∨ j = 511 ∨ j = 512) (fun k => k = 18 ∨ k = 19 ∨ k = 20 ∨ k = 28 ∨ k = 29 ∨ k = 33 ∨ k = 34 ∨ k = 35 ∨ k = 36 ∨ k = 37 ∨ k = 38 ∨ k = 39 ∨ k = 40 ∨ k = 41 ∨ k = 42 ∨ k = 43) lg0 it0 lg it → ((T9 lg it) ∧ (¬ lg 489 29 = 0) ∧ (B9 lg it)) → (21 - (it 489 42).toInt).toNat < n → w_X9_goesOn_b20 a1 Pz  n  lg it := by
    intro n20
    induction n20 with
    | zero => intro  lg it _ _ _ hn; exact absurd hn (Nat.not_lt_zero _)
    | succ n20 ih20 =>
      intro  lg84 it85 hI82 hK83 hv hn
      unfold w_X9_goesOn_b20
      obtain ⟨hv20_0, hv20_1, hv20_2⟩ := hv
      have f86 : 0 ≤ (it85 489 42).toInt ∧ (it85 489 42).toInt ≤ 20 := i9_f hI82 (j := 489) (k := 42) rfl
      refine ⟨fun c25 => ?_, fun c25 => ?_⟩
      · try simp only [Int32.lt_iff_toInt_lt, Int32.le_iff_toInt_le, ← Int32.toInt_inj, Int32.toInt_toInt64, ti_m14, ti_m13, ti_m12, ti_m11, ti_m10, ti_m9, ti_m6, ti_m5, ti_m4, ti_m3, ti_m2, ti_m1, ti_0, ti_1, ti_2, ti_3, ti_4, ti_5, ti_6, ti_7, ti_8, ti_9, ti_10, ti_11, ti_12, ti_19, ti_20, ti_21, ti_44, ti_45, ti_48, ti_57, ti_59, ti_60, ti_98, ti_99, ti_100, ti_101, ti_103, ti_108, ti_110, ti_114, ti_127] at c25
        intro it87 em88
        have hI89 : I9 lg84 it87 := by rw [em88]; exact i9_u hI82 (ok9_b (a := 0) (b := 1) rfl (by first | decide | ((try simp only [Int32.lt_iff_toInt_lt, Int32.le_iff_toInt_le, ← Int32.toInt_inj, Int32.toInt_toInt64, ti_m14, ti_m13, ti_m12, ti_m11, ti_m10, ti_m9, ti_m6, ti_m5, ti_m4, ti_m3, ti_m2, ti_m1, ti_0, ti_1, ti_2, ti_3, ti_4, ti_5, ti_6, ti_7, ti_8, ti_9, ti_10, ti_11, ti_12, ti_19, ti_20, ti_21, ti_44, ti_45, ti_48, ti_57, ti_59, ti_60, ti_98, ti_99, ti_100, ti_101, ti_103, ti_108, ti_110, ti_114, ti_127]); omega) | (split <;> (try simp only [Int32.lt_iff_toInt_lt, Int32.le_iff_toInt_le, ← Int32.toInt_inj, Int32.toInt_toInt64, ti_m14, ti_m13, ti_m12, ti_m11, ti_m10, ti_m9, ti_m6, ti_m5, ti_m4, ti_m3, ti_m2, ti_m1, ti_0, ti_1, ti_2, ti_3, ti_4, ti_5, ti_6, ti_7, ti_8, ti_9, ti_10, ti_11, ti_12, ti_19, ti_20, ti_21, ti_44, ti_45, ti_48, ti_57, ti_59, ti_60, ti_98, ti_99, ti_100, ti_101, ti_103, ti_108, ti_110, ti_114, ti_127]) <;> omega))) (by decide) (fun _ => by decide)
        have hK90 : Kd (fun j => j = 502 ∨ j = 503 ∨ j = 504 ∨ j = 505 ∨ j = 506 ∨ j = 507 ∨ j = 508 ∨ j = 509 ∨ j = 510 ∨ j = 511 ∨ j = 512) (fun k => k = 18 ∨ k = 19 ∨ k = 20 ∨ k = 28 ∨ k = 29 ∨ k = 33 ∨ k = 34 ∨ k = 35 ∨ k = 36 ∨ k = 37 ∨ k = 38 ∨ k = 39 ∨ k = 40 ∨ k = 41 ∨ k = 42 ∨ k = 43) lg0 it0 lg84 it87 := by rw [em88]; exact kd_uf (by first | decide | (dsimp only; decide) | omega | (dsimp only; omega)) hK83
        have e91 : (it87 489 0).toInt = (it85 489 0).toInt := by rw [em88]; exact congrArg Int32.toInt (u2_ne (by decide))
        have e92 : (it87 489 42).toInt = (it85 489 42).toInt := by rw [em88]; exact congrArg Int32.toInt (u2_ne (by decide))
        have PT93 : T9 lg84 it87 := T9_c hv20_0 rfl rfl (by rw [em88]; exact u2_row (by decide)) (by rw [em88]; exact u2_ne (by decide))
        have Pz2994 : ¬ lg84 489 29 = 0 := z_c (hv20_1) rfl
        have PB95 : B9 lg84 it87 := B9_c hv20_2 rfl rfl (by rw [em88]; exact u2_ne (by decide)) (by rw [em88]; exact u2_ne (by decide))
        subst hp
        exact ⟨⟨hI89, hK90⟩, ⟨PB95, PT93⟩⟩
      · try simp only [Int32.lt_iff_toInt_lt, Int32.le_iff_toInt_le, ← Int32.toInt_inj, Int32.toInt_toInt64, ti_m14, ti_m13, ti_m12, ti_m11, ti_m10, ti_m9, ti_m6, ti_m5, ti_m4, ti_m3, ti_m2, ti_m1, ti_0, ti_1, ti_2, ti_3, ti_4, ti_5, ti_6, ti_7, ti_8, ti_9, ti_10, ti_11, ti_12, ti_19, ti_20, ti_21, ti_44, ti_45, ti_48, ti_57, ti_59, ti_60, ti_98, ti_99, ti_100, ti_101, ti_103, ti_108, ti_110, ti_114, ti_127] at c25
        intro it96 em97
        have hI98 : I9 lg84 it96 := by rw [em97]; exact i9_u hI82 (ok9_b (a := 0) (b := 1) rfl (by first | decide | ((try simp only [Int32.lt_iff_toInt_lt, Int32.le_iff_toInt_le, ← Int32.toInt_inj, Int32.toInt_toInt64, ti_m14, ti_m13, ti_m12, ti_m11, ti_m10, ti_m9, ti_m6, ti_m5, ti_m4, ti_m3, ti_m2, ti_m1, ti_0, ti_1, ti_2, ti_3, ti_4, ti_5, ti_6, ti_7, ti_8, ti_9, ti_10, ti_11, ti_12, ti_19, ti_20, ti_21, ti_44, ti_45, ti_48, ti_57, ti_59, ti_60, ti_98, ti_99, ti_100, ti_101, ti_103, ti_108, ti_110, ti_114, ti_127]); omega) | (split <;> (try simp only [Int32.lt_iff_toInt_lt, Int32.le_iff_toInt_le, ← Int32.toInt_inj, Int32.toInt_toInt64, ti_m14, ti_m13, ti_m12, ti_m11, ti_m10, ti_m9, ti_m6, ti_m5, ti_m4, ti_m3, ti_m2, ti_m1, ti_0, ti_1, ti_2, ti_3, ti_4, ti_5, ti_6, ti_7, ti_8, ti_9, ti_10, ti_11, ti_12, ti_19, ti_20, ti_21, ti_44, ti_45, ti_48, ti_57, ti_59, ti_60, ti_98, ti_99, ti_100, ti_101, ti_103, ti_108, ti_110, ti_114, ti_127]) <;> omega))) (by decide) (fun _ => by decide)
        have hK99 : Kd (fun j => j = 502 ∨ j = 503 ∨ j = 504 ∨ j = 505 ∨ j = 506 ∨ j = 507 ∨ j = 508 ∨ j = 509 ∨ j = 510 ∨ j = 511 ∨ j = 512) (fun k => k = 18 ∨ k = 19 ∨ k = 20 ∨ k = 28 ∨ k = 29 ∨ k = 33 ∨ k = 34 ∨ k = 35 ∨ k = 36 ∨ k = 37 ∨ k = 38 ∨ k = 39 ∨ k = 40 ∨ k = 41 ∨ k = 42 ∨ k = 43) lg0 it0 lg84 it96 := by rw [em97]; exact kd_uf (by first | decide | (dsimp only; decide) | omega | (dsimp only; omega)) hK83
        have e100 : (it96 489 0).toInt = (it85 489 0).toInt := by rw [em97]; exact congrArg Int32.toInt (u2_ne (by decide))
        have e101 : (it96 489 42).toInt = (it85 489 42).toInt := by rw [em97]; exact congrArg Int32.toInt (u2_ne (by decide))
        have PT102 : T9 lg84 it96 := T9_c hv20_0 rfl rfl (by rw [em97]; exact u2_row (by decide)) (by rw [em97]; exact u2_ne (by decide))
        have Pz29103 : ¬ lg84 489 29 = 0 := z_c (hv20_1) rfl
        have PB104 : B9 lg84 it96 := B9_c hv20_2 rfl rfl (by rw [em97]; exact u2_ne (by decide)) (by rw [em97]; exact u2_ne (by decide))
        refine ⟨_, s_X9_next   hI98 (PT102), ?_⟩
        intro v110 lg105 it106 hq
        obtain ⟨⟨hI107, hK108⟩, ha111⟩ := hq
        have hK109 : Kd (fun j => j = 502 ∨ j = 503 ∨ j = 504 ∨ j = 505 ∨ j = 506 ∨ j = 507 ∨ j = 508 ∨ j = 509 ∨ j = 510 ∨ j = 511 ∨ j = 512) (fun k => k = 18 ∨ k = 19 ∨ k = 20 ∨ k = 28 ∨ k = 29 ∨ k = 33 ∨ k = 34 ∨ k = 35 ∨ k = 36 ∨ k = 37 ∨ k = 38 ∨ k = 39 ∨ k = 40 ∨ k = 41 ∨ k = 42 ∨ k = 43) lg0 it0 lg105 it106 := kd_t hK99 hK108 (fun j hj => by first | omega | exact False.elim hj | (dsimp only at hj ⊢; omega)) (fun j hj => by first | omega | exact False.elim hj | (dsimp only at hj ⊢; omega))
        try have e112 : (it106 489 0).toInt = (it96 489 0).toInt := congrArg Int32.toInt (hK108.2 0 (by first | decide | (dsimp only; decide) | omega | (dsimp only; omega))).2
        try have e113 : (it106 489 42).toInt = (it96 489 42).toInt := congrArg Int32.toInt (hK108.2 42 (by first | decide | (dsimp only; decide) | omega | (dsimp only; omega))).2
        have PT114 : T9 lg105 it106 := T9_c PT102 (hK108.1 503 (by decide) (by first | decide | (dsimp only; decide) | omega | (dsimp only; omega))).1 (hK108.1 505 (by decide) (by first | decide | (dsimp only; decide) | omega | (dsimp only; omega))).1 (hK108.1 501 (by decide) (by first | decide | (dsimp only; decide) | omega | (dsimp only; omega))).2 (hK108.2 0 (by first | decide | (dsimp only; decide) | omega | (dsimp only; omega))).2
        have Pz29115 : ¬ lg105 489 29 = 0 := z_c (Pz29103) (hK108.2 29 (by first | decide | (dsimp only; decide) | omega | (dsimp only; omega))).1
        have PB116 : B9 lg105 it106 := B9_c PB104 (hK108.1 510 (by decide) (by first | decide | (dsimp only; decide) | omega | (dsimp only; omega))).1 (hK108.1 512 (by decide) (by first | decide | (dsimp only; decide) | omega | (dsimp only; omega))).1 (hK108.2 0 (by first | decide | (dsimp only; decide) | omega | (dsimp only; omega))).2 (hK108.2 42 (by first | decide | (dsimp only; decide) | omega | (dsimp only; omega))).2
        have e117 := congrArg Int32.toInt ha111.1
        have f118 : 0 ≤ (it106 489 20).toInt ∧ (it106 489 20).toInt ≤ 1 := i9_f hI107 (j := 489) (k := 20) rfl
        refine ⟨fun c42 => ?_, fun c42 => ?_⟩
        · try simp only [Int32.lt_iff_toInt_lt, Int32.le_iff_toInt_le, ← Int32.toInt_inj, Int32.toInt_toInt64, ti_m14, ti_m13, ti_m12, ti_m11, ti_m10, ti_m9, ti_m6, ti_m5, ti_m4, ti_m3, ti_m2, ti_m1, ti_0, ti_1, ti_2, ti_3, ti_4, ti_5, ti_6, ti_7, ti_8, ti_9, ti_10, ti_11, ti_12, ti_19, ti_20, ti_21, ti_44, ti_45, ti_48, ti_57, ti_59, ti_60, ti_98, ti_99, ti_100, ti_101, ti_103, ti_108, ti_110, ti_114, ti_127] at c42
          unfold w_X9_goesOn_b57
          refine ⟨fun c61 => ?_, fun c61 => ?_⟩
          · try simp only [Int32.lt_iff_toInt_lt, Int32.le_iff_toInt_le, ← Int32.toInt_inj, Int32.toInt_toInt64, ti_m14, ti_m13, ti_m12, ti_m11, ti_m10, ti_m9, ti_m6, ti_m5, ti_m4, ti_m3, ti_m2, ti_m1, ti_0, ti_1, ti_2, ti_3, ti_4, ti_5, ti_6, ti_7, ti_8, ti_9, ti_10, ti_11, ti_12, ti_19, ti_20, ti_21, ti_44, ti_45, ti_48, ti_57, ti_59, ti_60, ti_98, ti_99, ti_100, ti_101, ti_103, ti_108, ti_110, ti_114, ti_127] at c61
            unfold w_X9_goesOn_b69
            refine ⟨fun c73 => ?_, fun c73 => ?_⟩
            · try simp only [Int32.lt_iff_toInt_lt, Int32.le_iff_toInt_le, ← Int32.toInt_inj, Int32.toInt_toInt64, ti_m14, ti_m13, ti_m12, ti_m11, ti_m10, ti_m9, ti_m6, ti_m5, ti_m4, ti_m3, ti_m2, ti_m1, ti_0, ti_1, ti_2, ti_3, ti_4, ti_5, ti_6, ti_7, ti_8, ti_9, ti_10, ti_11, ti_12, ti_19, ti_20, ti_21, ti_44, ti_45, ti_48, ti_57, ti_59, ti_60, ti_98, ti_99, ti_100, ti_101, ti_103, ti_108, ti_110, ti_114, ti_127] at c73
              refine ⟨_, s_X9_keeps  (v110) hI107 (by omega) (PT114) (Pz29115) (PB116), ?_⟩
              intro lg119 it120 hq
              obtain ⟨⟨hI121, hK122⟩, ha125⟩ := hq
              have hK123 : Kd (fun j => j = 502 ∨ j = 503 ∨ j = 504 ∨ j = 505 ∨ j = 506 ∨ j = 507 ∨ j = 508 ∨ j = 509 ∨ j = 510 ∨ j = 511 ∨ j = 512) (fun k => k = 18 ∨ k = 19 ∨ k = 20 ∨ k = 28 ∨ k = 29 ∨ k = 33 ∨ k = 34 ∨ k = 35 ∨ k = 36 ∨ k = 37 ∨ k = 38 ∨ k = 39 ∨ k = 40 ∨ k = 41 ∨ k = 42 ∨ k = 43) lg0 it0 lg119 it120 := kd_t hK109 hK122 (fun j hj => by first | omega | exact False.elim hj | (dsimp only at hj ⊢; omega)) (fun j hj => by first | omega | exact False.elim hj | (dsimp only at hj ⊢; omega))
              try have e126 : (it120 489 0).toInt = (it106 489 0).toInt := congrArg Int32.toInt (hK122.2 0 (by first | decide | (dsimp only; decide) | omega | (dsimp only; omega))).2
              try have e127 : (it120 489 42).toInt = (it106 489 42).toInt := congrArg Int32.toInt (hK122.2 42 (by first | decide | (dsimp only; decide) | omega | (dsimp only; omega))).2
              try have e128 : (it120 489 20).toInt = (it106 489 20).toInt := congrArg Int32.toInt (hK122.2 20 (by first | decide | (dsimp only; decide) | omega | (dsimp only; omega))).2
              have PT129 : T9 lg119 it120 := T9_c PT114 (hK122.1 503 (by decide) (by first | decide | (dsimp only; decide) | omega | (dsimp only; omega))).1 (hK122.1 505 (by decide) (by first | decide | (dsimp only; decide) | omega | (dsimp only; omega))).1 (hK122.1 501 (by decide) (by first | decide | (dsimp only; decide) | omega | (dsimp only; omega))).2 (hK122.2 0 (by first | decide | (dsimp only; decide) | omega | (dsimp only; omega))).2
              have Pz29130 : ¬ lg119 489 29 = 0 := z_c (Pz29115) (hK122.2 29 (by first | decide | (dsimp only; decide) | omega | (dsimp only; omega))).1
              have PW131 : W9 lg119 it120 := W9_c ha111.2 (hK122.2 35 (by first | decide | (dsimp only; decide) | omega | (dsimp only; omega))).1 (hK122.2 33 (by first | decide | (dsimp only; decide) | omega | (dsimp only; omega))).2 (hK122.2 0 (by first | decide | (dsimp only; decide) | omega | (dsimp only; omega))).2
              have PB132 := ha125.1
              have e133 := ha125.2
              exact ih20  _ _ hI121 hK123 (by refine ⟨?_, ?_, ?_⟩ <;> first | exact Nx_0 | omega | assumption | exact Or.inl rfl | exact Or.inr rfl | exact i8_1 (by assumption) (by assumption) | decide) (by omega)
            · try simp only [Int32.lt_iff_toInt_lt, Int32.le_iff_toInt_le, ← Int32.toInt_inj, Int32.toInt_toInt64, ti_m14, ti_m13, ti_m12, ti_m11, ti_m10, ti_m9, ti_m6, ti_m5, ti_m4, ti_m3, ti_m2, ti_m1, ti_0, ti_1, ti_2, ti_3, ti_4, ti_5, ti_6, ti_7, ti_8, ti_9, ti_10, ti_11, ti_12, ti_19, ti_20, ti_21, ti_44, ti_45, ti_48, ti_57, ti_59, ti_60, ti_98, ti_99, ti_100, ti_101, ti_103, ti_108, ti_110, ti_114, ti_127] at c73
              intro it134 em135
              have hI136 : I9 lg105 it134 := by rw [em135]; exact i9_u hI107 (ok9_n rfl) (by decide) (fun _ => by decide)
              have hK137 : Kd (fun j => j = 502 ∨ j = 503 ∨ j = 504 ∨ j = 505 ∨ j = 506 ∨ j = 507 ∨ j = 508 ∨ j = 509 ∨ j = 510 ∨ j = 511 ∨ j = 512) (fun k => k = 18 ∨ k = 19 ∨ k = 20 ∨ k = 28 ∨ k = 29 ∨ k = 33 ∨ k = 34 ∨ k = 35 ∨ k = 36 ∨ k = 37 ∨ k = 38 ∨ k = 39 ∨ k = 40 ∨ k = 41 ∨ k = 42 ∨ k = 43) lg0 it0 lg105 it134 := by rw [em135]; exact kd_uf (by first | decide | (dsimp only; decide) | omega | (dsimp only; omega)) hK109
              have e138 : (it134 489 0).toInt = (it106 489 0).toInt := by rw [em135]; exact congrArg Int32.toInt (u2_ne (by decide))
              have e139 : (it134 489 42).toInt = (it106 489 42).toInt := by rw [em135]; exact congrArg Int32.toInt (u2_ne (by decide))
              have e140 : (it134 489 20).toInt = (it106 489 20).toInt := by rw [em135]; exact congrArg Int32.toInt (u2_ne (by decide))
              have PT141 : T9 lg105 it134 := T9_c PT114 rfl rfl (by rw [em135]; exact u2_row (by decide)) (by rw [em135]; exact u2_ne (by decide))
              have Pz29142 : ¬ lg105 489 29 = 0 := z_c (Pz29115) rfl
              have PB143 : B9 lg105 it134 := B9_c PB116 rfl rfl (by rw [em135]; exact u2_ne (by decide)) (by rw [em135]; exact u2_ne (by decide))
              have PW144 : W9 lg105 it134 := W9_c ha111.2 rfl (by rw [em135]; exact u2_ne (by decide)) (by rw [em135]; exact u2_ne (by decide))
              intro it145 em146
              have hI147 : I9 lg105 it145 := by rw [em146]; exact i9_u hI136 (ok9_b (a := 0) (b := 1) rfl (by first | decide | ((try simp only [Int32.lt_iff_toInt_lt, Int32.le_iff_toInt_le, ← Int32.toInt_inj, Int32.toInt_toInt64, ti_m14, ti_m13, ti_m12, ti_m11, ti_m10, ti_m9, ti_m6, ti_m5, ti_m4, ti_m3, ti_m2, ti_m1, ti_0, ti_1, ti_2, ti_3, ti_4, ti_5, ti_6, ti_7, ti_8, ti_9, ti_10, ti_11, ti_12, ti_19, ti_20, ti_21, ti_44, ti_45, ti_48, ti_57, ti_59, ti_60, ti_98, ti_99, ti_100, ti_101, ti_103, ti_108, ti_110, ti_114, ti_127]); omega) | (split <;> (try simp only [Int32.lt_iff_toInt_lt, Int32.le_iff_toInt_le, ← Int32.toInt_inj, Int32.toInt_toInt64, ti_m14, ti_m13, ti_m12, ti_m11, ti_m10, ti_m9, ti_m6, ti_m5, ti_m4, ti_m3, ti_m2, ti_m1, ti_0, ti_1, ti_2, ti_3, ti_4, ti_5, ti_6, ti_7, ti_8, ti_9, ti_10, ti_11, ti_12, ti_19, ti_20, ti_21, ti_44, ti_45, ti_48, ti_57, ti_59, ti_60, ti_98, ti_99, ti_100, ti_101, ti_103, ti_108, ti_110, ti_114, ti_127]) <;> omega))) (by decide) (fun _ => by decide)
              have hK148 : Kd (fun j => j = 502 ∨ j = 503 ∨ j = 504 ∨ j = 505 ∨ j = 506 ∨ j = 507 ∨ j = 508 ∨ j = 509 ∨ j = 510 ∨ j = 511 ∨ j = 512) (fun k => k = 18 ∨ k = 19 ∨ k = 20 ∨ k = 28 ∨ k = 29 ∨ k = 33 ∨ k = 34 ∨ k = 35 ∨ k = 36 ∨ k = 37 ∨ k = 38 ∨ k = 39 ∨ k = 40 ∨ k = 41 ∨ k = 42 ∨ k = 43) lg0 it0 lg105 it145 := by rw [em146]; exact kd_uf (by first | decide | (dsimp only; decide) | omega | (dsimp only; omega)) hK137
              have e149 : (it145 489 0).toInt = (it134 489 0).toInt := by rw [em146]; exact congrArg Int32.toInt (u2_ne (by decide))
              have e150 : (it145 489 42).toInt = (it134 489 42).toInt := by rw [em146]; exact congrArg Int32.toInt (u2_ne (by decide))
              have PT152 : T9 lg105 it145 := T9_c PT141 rfl rfl (by rw [em146]; exact u2_row (by decide)) (by rw [em146]; exact u2_ne (by decide))
              have Pz29153 : ¬ lg105 489 29 = 0 := z_c (Pz29142) rfl
              have PB154 : B9 lg105 it145 := B9_c PB143 rfl rfl (by rw [em146]; exact u2_ne (by decide)) (by rw [em146]; exact u2_ne (by decide))
              have PW155 : W9 lg105 it145 := W9_c PW144 rfl (by rw [em146]; exact u2_ne (by decide)) (by rw [em146]; exact u2_ne (by decide))
              have e156 : (it145 489 20).toInt = (0 : Int32).toInt := by rw [em146]; exact congrArg Int32.toInt u2_eq
              subst hp
              exact ⟨⟨hI147, hK148⟩, ⟨PB154, PT152⟩⟩
          · try simp only [Int32.lt_iff_toInt_lt, Int32.le_iff_toInt_le, ← Int32.toInt_inj, Int32.toInt_toInt64, ti_m14, ti_m13, ti_m12, ti_m11, ti_m10, ti_m9, ti_m6, ti_m5, ti_m4, ti_m3, ti_m2, ti_m1, ti_0, ti_1, ti_2, ti_3, ti_4, ti_5, ti_6, ti_7, ti_8, ti_9, ti_10, ti_11, ti_12, ti_19, ti_20, ti_21, ti_44, ti_45, ti_48, ti_57, ti_59, ti_60, ti_98, ti_99, ti_100, ti_101, ti_103, ti_108, ti_110, ti_114, ti_127] at c61
            refine ⟨_, s_X9_does  (v110) hI107 (PT114) (Pz29115) (ha111.2.1 (by first | omega | (simp only [Int32.lt_iff_toInt_lt, Int32.le_iff_toInt_le, ← Int32.toInt_inj, Int32.toInt_toInt64, ti_m14, ti_m13, ti_m12, ti_m11, ti_m10, ti_m9, ti_m6, ti_m5, ti_m4, ti_m3, ti_m2, ti_m1, ti_0, ti_1, ti_2, ti_3, ti_4, ti_5, ti_6, ti_7, ti_8, ti_9, ti_10, ti_11, ti_12, ti_19, ti_20, ti_21, ti_44, ti_45, ti_48, ti_57, ti_59, ti_60, ti_98, ti_99, ti_100, ti_101, ti_103, ti_108, ti_110, ti_114, ti_127] at *; omega))) (by have w2 := ha111.2.2; first | omega | (simp only [Int32.lt_iff_toInt_lt, Int32.le_iff_toInt_le, ← Int32.toInt_inj, Int32.toInt_toInt64, ti_m14, ti_m13, ti_m12, ti_m11, ti_m10, ti_m9, ti_m6, ti_m5, ti_m4, ti_m3, ti_m2, ti_m1, ti_0, ti_1, ti_2, ti_3, ti_4, ti_5, ti_6, ti_7, ti_8, ti_9, ti_10, ti_11, ti_12, ti_19, ti_20, ti_21, ti_44, ti_45, ti_48, ti_57, ti_59, ti_60, ti_98, ti_99, ti_100, ti_101, ti_103, ti_108, ti_110, ti_114, ti_127] at *; omega)), ?_⟩
            intro lg157 it158 hq
            obtain ⟨⟨hI159, hK160⟩, ha163⟩ := hq
            have hK161 : Kd (fun j => j = 502 ∨ j = 503 ∨ j = 504 ∨ j = 505 ∨ j = 506 ∨ j = 507 ∨ j = 508 ∨ j = 509 ∨ j = 510 ∨ j = 511 ∨ j = 512) (fun k => k = 18 ∨ k = 19 ∨ k = 20 ∨ k = 28 ∨ k = 29 ∨ k = 33 ∨ k = 34 ∨ k = 35 ∨ k = 36 ∨ k = 37 ∨ k = 38 ∨ k = 39 ∨ k = 40 ∨ k = 41 ∨ k = 42 ∨ k = 43) lg0 it0 lg157 it158 := kd_t hK109 hK160 (fun j hj => by first | omega | exact False.elim hj | (dsimp only at hj ⊢; omega)) (fun j hj => by first | omega | exact False.elim hj | (dsimp only at hj ⊢; omega))
            try have e164 : (it158 489 0).toInt = (it106 489 0).toInt := congrArg Int32.toInt (hK160.2 0 (by first | decide | (dsimp only; decide) | omega | (dsimp only; omega))).2
            try have e165 : (it158 489 42).toInt = (it106 489 42).toInt := congrArg Int32.toInt (hK160.2 42 (by first | decide | (dsimp only; decide) | omega | (dsimp only; omega))).2
            try have e166 : (it158 489 20).toInt = (it106 489 20).toInt := congrArg Int32.toInt (hK160.2 20 (by first | decide | (dsimp only; decide) | omega | (dsimp only; omega))).2
            have PB167 : B9 lg157 it158 := B9_c PB116 (hK160.1 510 (by decide) (by first | decide | (dsimp only; decide) | omega | (dsimp only; omega))).1 (hK160.1 512 (by decide) (by first | decide | (dsimp only; decide) | omega | (dsimp only; omega))).1 (hK160.2 0 (by first | decide | (dsimp only; decide) | omega | (dsimp only; omega))).2 (hK160.2 42 (by first | decide | (dsimp only; decide) | omega | (dsimp only; omega))).2
            have PW168 : W9 lg157 it158 := W9_c ha111.2 (hK160.2 35 (by first | decide | (dsimp only; decide) | omega | (dsimp only; omega))).1 (hK160.2 33 (by first | decide | (dsimp only; decide) | omega | (dsimp only; omega))).2 (hK160.2 0 (by first | decide | (dsimp only; decide) | omega | (dsimp only; omega))).2
            unfold w_X9_goesOn_b69
            have f169 : 0 ≤ (it158 489 20).toInt ∧ (it158 489 20).toInt ≤ 1 := i9_f hI159 (j := 489) (k := 20) rfl
            refine ⟨fun c73 => ?_, fun c73 => ?_⟩
            · try simp only [Int32.lt_iff_toInt_lt, Int32.le_iff_toInt_le, ← Int32.toInt_inj, Int32.toInt_toInt64, ti_m14, ti_m13, ti_m12, ti_m11, ti_m10, ti_m9, ti_m6, ti_m5, ti_m4, ti_m3, ti_m2, ti_m1, ti_0, ti_1, ti_2, ti_3, ti_4, ti_5, ti_6, ti_7, ti_8, ti_9, ti_10, ti_11, ti_12, ti_19, ti_20, ti_21, ti_44, ti_45, ti_48, ti_57, ti_59, ti_60, ti_98, ti_99, ti_100, ti_101, ti_103, ti_108, ti_110, ti_114, ti_127] at c73
              refine ⟨_, s_X9_keeps  (v110) hI159 (by omega) (ha163.1) (ha163.2) (PB167), ?_⟩
              intro lg170 it171 hq
              obtain ⟨⟨hI172, hK173⟩, ha176⟩ := hq
              have hK174 : Kd (fun j => j = 502 ∨ j = 503 ∨ j = 504 ∨ j = 505 ∨ j = 506 ∨ j = 507 ∨ j = 508 ∨ j = 509 ∨ j = 510 ∨ j = 511 ∨ j = 512) (fun k => k = 18 ∨ k = 19 ∨ k = 20 ∨ k = 28 ∨ k = 29 ∨ k = 33 ∨ k = 34 ∨ k = 35 ∨ k = 36 ∨ k = 37 ∨ k = 38 ∨ k = 39 ∨ k = 40 ∨ k = 41 ∨ k = 42 ∨ k = 43) lg0 it0 lg170 it171 := kd_t hK161 hK173 (fun j hj => by first | omega | exact False.elim hj | (dsimp only at hj ⊢; omega)) (fun j hj => by first | omega | exact False.elim hj | (dsimp only at hj ⊢; omega))
              try have e177 : (it171 489 0).toInt = (it158 489 0).toInt := congrArg Int32.toInt (hK173.2 0 (by first | decide | (dsimp only; decide) | omega | (dsimp only; omega))).2
              try have e178 : (it171 489 42).toInt = (it158 489 42).toInt := congrArg Int32.toInt (hK173.2 42 (by first | decide | (dsimp only; decide) | omega | (dsimp only; omega))).2
              try have e179 : (it171 489 20).toInt = (it158 489 20).toInt := congrArg Int32.toInt (hK173.2 20 (by first | decide | (dsimp only; decide) | omega | (dsimp only; omega))).2
              have PW180 : W9 lg170 it171 := W9_c PW168 (hK173.2 35 (by first | decide | (dsimp only; decide) | omega | (dsimp only; omega))).1 (hK173.2 33 (by first | decide | (dsimp only; decide) | omega | (dsimp only; omega))).2 (hK173.2 0 (by first | decide | (dsimp only; decide) | omega | (dsimp only; omega))).2
              have PT181 : T9 lg170 it171 := T9_c ha163.1 (hK173.1 503 (by decide) (by first | decide | (dsimp only; decide) | omega | (dsimp only; omega))).1 (hK173.1 505 (by decide) (by first | decide | (dsimp only; decide) | omega | (dsimp only; omega))).1 (hK173.1 501 (by decide) (by first | decide | (dsimp only; decide) | omega | (dsimp only; omega))).2 (hK173.2 0 (by first | decide | (dsimp only; decide) | omega | (dsimp only; omega))).2
              have Pz29182 : ¬ lg170 489 29 = 0 := z_c (ha163.2) (hK173.2 29 (by first | decide | (dsimp only; decide) | omega | (dsimp only; omega))).1
              have PB183 := ha176.1
              have e184 := ha176.2
              exact ih20  _ _ hI172 hK174 (by refine ⟨?_, ?_, ?_⟩ <;> first | exact Nx_0 | omega | assumption | exact Or.inl rfl | exact Or.inr rfl | exact i8_1 (by assumption) (by assumption) | decide) (by omega)
            · try simp only [Int32.lt_iff_toInt_lt, Int32.le_iff_toInt_le, ← Int32.toInt_inj, Int32.toInt_toInt64, ti_m14, ti_m13, ti_m12, ti_m11, ti_m10, ti_m9, ti_m6, ti_m5, ti_m4, ti_m3, ti_m2, ti_m1, ti_0, ti_1, ti_2, ti_3, ti_4, ti_5, ti_6, ti_7, ti_8, ti_9, ti_10, ti_11, ti_12, ti_19, ti_20, ti_21, ti_44, ti_45, ti_48, ti_57, ti_59, ti_60, ti_98, ti_99, ti_100, ti_101, ti_103, ti_108, ti_110, ti_114, ti_127] at c73
              intro it185 em186
              have hI187 : I9 lg157 it185 := by rw [em186]; exact i9_u hI159 (ok9_n rfl) (by decide) (fun _ => by decide)
              have hK188 : Kd (fun j => j = 502 ∨ j = 503 ∨ j = 504 ∨ j = 505 ∨ j = 506 ∨ j = 507 ∨ j = 508 ∨ j = 509 ∨ j = 510 ∨ j = 511 ∨ j = 512) (fun k => k = 18 ∨ k = 19 ∨ k = 20 ∨ k = 28 ∨ k = 29 ∨ k = 33 ∨ k = 34 ∨ k = 35 ∨ k = 36 ∨ k = 37 ∨ k = 38 ∨ k = 39 ∨ k = 40 ∨ k = 41 ∨ k = 42 ∨ k = 43) lg0 it0 lg157 it185 := by rw [em186]; exact kd_uf (by first | decide | (dsimp only; decide) | omega | (dsimp only; omega)) hK161
              have e189 : (it185 489 0).toInt = (it158 489 0).toInt := by rw [em186]; exact congrArg Int32.toInt (u2_ne (by decide))
              have e190 : (it185 489 42).toInt = (it158 489 42).toInt := by rw [em186]; exact congrArg Int32.toInt (u2_ne (by decide))
              have e191 : (it185 489 20).toInt = (it158 489 20).toInt := by rw [em186]; exact congrArg Int32.toInt (u2_ne (by decide))
              have PB192 : B9 lg157 it185 := B9_c PB167 rfl rfl (by rw [em186]; exact u2_ne (by decide)) (by rw [em186]; exact u2_ne (by decide))
              have PW193 : W9 lg157 it185 := W9_c PW168 rfl (by rw [em186]; exact u2_ne (by decide)) (by rw [em186]; exact u2_ne (by decide))
              have PT194 : T9 lg157 it185 := T9_c ha163.1 rfl rfl (by rw [em186]; exact u2_row (by decide)) (by rw [em186]; exact u2_ne (by decide))
              have Pz29195 : ¬ lg157 489 29 = 0 := z_c (ha163.2) rfl
              intro it196 em197
              have hI198 : I9 lg157 it196 := by rw [em197]; exact i9_u hI187 (ok9_b (a := 0) (b := 1) rfl (by first | decide | ((try simp only [Int32.lt_iff_toInt_lt, Int32.le_iff_toInt_le, ← Int32.toInt_inj, Int32.toInt_toInt64, ti_m14, ti_m13, ti_m12, ti_m11, ti_m10, ti_m9, ti_m6, ti_m5, ti_m4, ti_m3, ti_m2, ti_m1, ti_0, ti_1, ti_2, ti_3, ti_4, ti_5, ti_6, ti_7, ti_8, ti_9, ti_10, ti_11, ti_12, ti_19, ti_20, ti_21, ti_44, ti_45, ti_48, ti_57, ti_59, ti_60, ti_98, ti_99, ti_100, ti_101, ti_103, ti_108, ti_110, ti_114, ti_127]); omega) | (split <;> (try simp only [Int32.lt_iff_toInt_lt, Int32.le_iff_toInt_le, ← Int32.toInt_inj, Int32.toInt_toInt64, ti_m14, ti_m13, ti_m12, ti_m11, ti_m10, ti_m9, ti_m6, ti_m5, ti_m4, ti_m3, ti_m2, ti_m1, ti_0, ti_1, ti_2, ti_3, ti_4, ti_5, ti_6, ti_7, ti_8, ti_9, ti_10, ti_11, ti_12, ti_19, ti_20, ti_21, ti_44, ti_45, ti_48, ti_57, ti_59, ti_60, ti_98, ti_99, ti_100, ti_101, ti_103, ti_108, ti_110, ti_114, ti_127]) <;> omega))) (by decide) (fun _ => by decide)
              have hK199 : Kd (fun j => j = 502 ∨ j = 503 ∨ j = 504 ∨ j = 505 ∨ j = 506 ∨ j = 507 ∨ j = 508 ∨ j = 509 ∨ j = 510 ∨ j = 511 ∨ j = 512) (fun k => k = 18 ∨ k = 19 ∨ k = 20 ∨ k = 28 ∨ k = 29 ∨ k = 33 ∨ k = 34 ∨ k = 35 ∨ k = 36 ∨ k = 37 ∨ k = 38 ∨ k = 39 ∨ k = 40 ∨ k = 41 ∨ k = 42 ∨ k = 43) lg0 it0 lg157 it196 := by rw [em197]; exact kd_uf (by first | decide | (dsimp only; decide) | omega | (dsimp only; omega)) hK188
              have e200 : (it196 489 0).toInt = (it185 489 0).toInt := by rw [em197]; exact congrArg Int32.toInt (u2_ne (by decide))
              have e201 : (it196 489 42).toInt = (it185 489 42).toInt := by rw [em197]; exact congrArg Int32.toInt (u2_ne (by decide))
              have PB203 : B9 lg157 it196 := B9_c PB192 rfl rfl (by rw [em197]; exact u2_ne (by decide)) (by rw [em197]; exact u2_ne (by decide))
              have PW204 : W9 lg157 it196 := W9_c PW193 rfl (by rw [em197]; exact u2_ne (by decide)) (by rw [em197]; exact u2_ne (by decide))
              have PT205 : T9 lg157 it196 := T9_c PT194 rfl rfl (by rw [em197]; exact u2_row (by decide)) (by rw [em197]; exact u2_ne (by decide))
              have Pz29206 : ¬ lg157 489 29 = 0 := z_c (Pz29195) rfl
              have e207 : (it196 489 20).toInt = (0 : Int32).toInt := by rw [em197]; exact congrArg Int32.toInt u2_eq
              subst hp
              exact ⟨⟨hI198, hK199⟩, ⟨PB203, PT205⟩⟩
        · try simp only [Int32.lt_iff_toInt_lt, Int32.le_iff_toInt_le, ← Int32.toInt_inj, Int32.toInt_toInt64, ti_m14, ti_m13, ti_m12, ti_m11, ti_m10, ti_m9, ti_m6, ti_m5, ti_m4, ti_m3, ti_m2, ti_m1, ti_0, ti_1, ti_2, ti_3, ti_4, ti_5, ti_6, ti_7, ti_8, ti_9, ti_10, ti_11, ti_12, ti_19, ti_20, ti_21, ti_44, ti_45, ti_48, ti_57, ti_59, ti_60, ti_98, ti_99, ti_100, ti_101, ti_103, ti_108, ti_110, ti_114, ti_127] at c42
          refine ⟨fun c46 => ?_, fun c46 => ?_⟩
          · try simp only [Int32.lt_iff_toInt_lt, Int32.le_iff_toInt_le, ← Int32.toInt_inj, Int32.toInt_toInt64, ti_m14, ti_m13, ti_m12, ti_m11, ti_m10, ti_m9, ti_m6, ti_m5, ti_m4, ti_m3, ti_m2, ti_m1, ti_0, ti_1, ti_2, ti_3, ti_4, ti_5, ti_6, ti_7, ti_8, ti_9, ti_10, ti_11, ti_12, ti_19, ti_20, ti_21, ti_44, ti_45, ti_48, ti_57, ti_59, ti_60, ti_98, ti_99, ti_100, ti_101, ti_103, ti_108, ti_110, ti_114, ti_127] at c46
            unfold w_X9_goesOn_b57
            refine ⟨fun c61 => ?_, fun c61 => ?_⟩
            · try simp only [Int32.lt_iff_toInt_lt, Int32.le_iff_toInt_le, ← Int32.toInt_inj, Int32.toInt_toInt64, ti_m14, ti_m13, ti_m12, ti_m11, ti_m10, ti_m9, ti_m6, ti_m5, ti_m4, ti_m3, ti_m2, ti_m1, ti_0, ti_1, ti_2, ti_3, ti_4, ti_5, ti_6, ti_7, ti_8, ti_9, ti_10, ti_11, ti_12, ti_19, ti_20, ti_21, ti_44, ti_45, ti_48, ti_57, ti_59, ti_60, ti_98, ti_99, ti_100, ti_101, ti_103, ti_108, ti_110, ti_114, ti_127] at c61
              unfold w_X9_goesOn_b69
              refine ⟨fun c73 => ?_, fun c73 => ?_⟩
              · try simp only [Int32.lt_iff_toInt_lt, Int32.le_iff_toInt_le, ← Int32.toInt_inj, Int32.toInt_toInt64, ti_m14, ti_m13, ti_m12, ti_m11, ti_m10, ti_m9, ti_m6, ti_m5, ti_m4, ti_m3, ti_m2, ti_m1, ti_0, ti_1, ti_2, ti_3, ti_4, ti_5, ti_6, ti_7, ti_8, ti_9, ti_10, ti_11, ti_12, ti_19, ti_20, ti_21, ti_44, ti_45, ti_48, ti_57, ti_59, ti_60, ti_98, ti_99, ti_100, ti_101, ti_103, ti_108, ti_110, ti_114, ti_127] at c73
                refine ⟨_, s_X9_keeps  (v110) hI107 (by omega) (PT114) (Pz29115) (PB116), ?_⟩
                intro lg208 it209 hq
                obtain ⟨⟨hI210, hK211⟩, ha214⟩ := hq
                have hK212 : Kd (fun j => j = 502 ∨ j = 503 ∨ j = 504 ∨ j = 505 ∨ j = 506 ∨ j = 507 ∨ j = 508 ∨ j = 509 ∨ j = 510 ∨ j = 511 ∨ j = 512) (fun k => k = 18 ∨ k = 19 ∨ k = 20 ∨ k = 28 ∨ k = 29 ∨ k = 33 ∨ k = 34 ∨ k = 35 ∨ k = 36 ∨ k = 37 ∨ k = 38 ∨ k = 39 ∨ k = 40 ∨ k = 41 ∨ k = 42 ∨ k = 43) lg0 it0 lg208 it209 := kd_t hK109 hK211 (fun j hj => by first | omega | exact False.elim hj | (dsimp only at hj ⊢; omega)) (fun j hj => by first | omega | exact False.elim hj | (dsimp only at hj ⊢; omega))
                try have e215 : (it209 489 0).toInt = (it106 489 0).toInt := congrArg Int32.toInt (hK211.2 0 (by first | decide | (dsimp only; decide) | omega | (dsimp only; omega))).2
                try have e216 : (it209 489 42).toInt = (it106 489 42).toInt := congrArg Int32.toInt (hK211.2 42 (by first | decide | (dsimp only; decide) | omega | (dsimp only; omega))).2
                try have e217 : (it209 489 20).toInt = (it106 489 20).toInt := congrArg Int32.toInt (hK211.2 20 (by first | decide | (dsimp only; decide) | omega | (dsimp only; omega))).2
                have PT218 : T9 lg208 it209 := T9_c PT114 (hK211.1 503 (by decide) (by first | decide | (dsimp only; decide) | omega | (dsimp only; omega))).1 (hK211.1 505 (by decide) (by first | decide | (dsimp only; decide) | omega | (dsimp only; omega))).1 (hK211.1 501 (by decide) (by first | decide | (dsimp only; decide) | omega | (dsimp only; omega))).2 (hK211.2 0 (by first | decide | (dsimp only; decide) | omega | (dsimp only; omega))).2
                have Pz29219 : ¬ lg208 489 29 = 0 := z_c (Pz29115) (hK211.2 29 (by first | decide | (dsimp only; decide) | omega | (dsimp only; omega))).1
                have PW220 : W9 lg208 it209 := W9_c ha111.2 (hK211.2 35 (by first | decide | (dsimp only; decide) | omega | (dsimp only; omega))).1 (hK211.2 33 (by first | decide | (dsimp only; decide) | omega | (dsimp only; omega))).2 (hK211.2 0 (by first | decide | (dsimp only; decide) | omega | (dsimp only; omega))).2
                have PB221 := ha214.1
                have e222 := ha214.2
                exact ih20  _ _ hI210 hK212 (by refine ⟨?_, ?_, ?_⟩ <;> first | exact Nx_0 | omega | assumption | exact Or.inl rfl | exact Or.inr rfl | exact i8_1 (by assumption) (by assumption) | decide) (by omega)
              · try simp only [Int32.lt_iff_toInt_lt, Int32.le_iff_toInt_le, ← Int32.toInt_inj, Int32.toInt_toInt64, ti_m14, ti_m13, ti_m12, ti_m11, ti_m10, ti_m9, ti_m6, ti_m5, ti_m4, ti_m3, ti_m2, ti_m1, ti_0, ti_1, ti_2, ti_3, ti_4, ti_5, ti_6, ti_7, ti_8, ti_9, ti_10, ti_11, ti_12, ti_19, ti_20, ti_21, ti_44, ti_45, ti_48, ti_57, ti_59, ti_60, ti_98, ti_99, ti_100, ti_101, ti_103, ti_108, ti_110, ti_114, ti_127] at c73
                intro it223 em224
                have hI225 : I9 lg105 it223 := by rw [em224]; exact i9_u hI107 (ok9_n rfl) (by decide) (fun _ => by decide)
                have hK226 : Kd (fun j => j = 502 ∨ j = 503 ∨ j = 504 ∨ j = 505 ∨ j = 506 ∨ j = 507 ∨ j = 508 ∨ j = 509 ∨ j = 510 ∨ j = 511 ∨ j = 512) (fun k => k = 18 ∨ k = 19 ∨ k = 20 ∨ k = 28 ∨ k = 29 ∨ k = 33 ∨ k = 34 ∨ k = 35 ∨ k = 36 ∨ k = 37 ∨ k = 38 ∨ k = 39 ∨ k = 40 ∨ k = 41 ∨ k = 42 ∨ k = 43) lg0 it0 lg105 it223 := by rw [em224]; exact kd_uf (by first | decide | (dsimp only; decide) | omega | (dsimp only; omega)) hK109
                have e227 : (it223 489 0).toInt = (it106 489 0).toInt := by rw [em224]; exact congrArg Int32.toInt (u2_ne (by decide))
                have e228 : (it223 489 42).toInt = (it106 489 42).toInt := by rw [em224]; exact congrArg Int32.toInt (u2_ne (by decide))
                have e229 : (it223 489 20).toInt = (it106 489 20).toInt := by rw [em224]; exact congrArg Int32.toInt (u2_ne (by decide))
                have PT230 : T9 lg105 it223 := T9_c PT114 rfl rfl (by rw [em224]; exact u2_row (by decide)) (by rw [em224]; exact u2_ne (by decide))
                have Pz29231 : ¬ lg105 489 29 = 0 := z_c (Pz29115) rfl
                have PB232 : B9 lg105 it223 := B9_c PB116 rfl rfl (by rw [em224]; exact u2_ne (by decide)) (by rw [em224]; exact u2_ne (by decide))
                have PW233 : W9 lg105 it223 := W9_c ha111.2 rfl (by rw [em224]; exact u2_ne (by decide)) (by rw [em224]; exact u2_ne (by decide))
                intro it234 em235
                have hI236 : I9 lg105 it234 := by rw [em235]; exact i9_u hI225 (ok9_b (a := 0) (b := 1) rfl (by first | decide | ((try simp only [Int32.lt_iff_toInt_lt, Int32.le_iff_toInt_le, ← Int32.toInt_inj, Int32.toInt_toInt64, ti_m14, ti_m13, ti_m12, ti_m11, ti_m10, ti_m9, ti_m6, ti_m5, ti_m4, ti_m3, ti_m2, ti_m1, ti_0, ti_1, ti_2, ti_3, ti_4, ti_5, ti_6, ti_7, ti_8, ti_9, ti_10, ti_11, ti_12, ti_19, ti_20, ti_21, ti_44, ti_45, ti_48, ti_57, ti_59, ti_60, ti_98, ti_99, ti_100, ti_101, ti_103, ti_108, ti_110, ti_114, ti_127]); omega) | (split <;> (try simp only [Int32.lt_iff_toInt_lt, Int32.le_iff_toInt_le, ← Int32.toInt_inj, Int32.toInt_toInt64, ti_m14, ti_m13, ti_m12, ti_m11, ti_m10, ti_m9, ti_m6, ti_m5, ti_m4, ti_m3, ti_m2, ti_m1, ti_0, ti_1, ti_2, ti_3, ti_4, ti_5, ti_6, ti_7, ti_8, ti_9, ti_10, ti_11, ti_12, ti_19, ti_20, ti_21, ti_44, ti_45, ti_48, ti_57, ti_59, ti_60, ti_98, ti_99, ti_100, ti_101, ti_103, ti_108, ti_110, ti_114, ti_127]) <;> omega))) (by decide) (fun _ => by decide)
                have hK237 : Kd (fun j => j = 502 ∨ j = 503 ∨ j = 504 ∨ j = 505 ∨ j = 506 ∨ j = 507 ∨ j = 508 ∨ j = 509 ∨ j = 510 ∨ j = 511 ∨ j = 512) (fun k => k = 18 ∨ k = 19 ∨ k = 20 ∨ k = 28 ∨ k = 29 ∨ k = 33 ∨ k = 34 ∨ k = 35 ∨ k = 36 ∨ k = 37 ∨ k = 38 ∨ k = 39 ∨ k = 40 ∨ k = 41 ∨ k = 42 ∨ k = 43) lg0 it0 lg105 it234 := by rw [em235]; exact kd_uf (by first | decide | (dsimp only; decide) | omega | (dsimp only; omega)) hK226
                have e238 : (it234 489 0).toInt = (it223 489 0).toInt := by rw [em235]; exact congrArg Int32.toInt (u2_ne (by decide))
                have e239 : (it234 489 42).toInt = (it223 489 42).toInt := by rw [em235]; exact congrArg Int32.toInt (u2_ne (by decide))
                have PT241 : T9 lg105 it234 := T9_c PT230 rfl rfl (by rw [em235]; exact u2_row (by decide)) (by rw [em235]; exact u2_ne (by decide))
                have Pz29242 : ¬ lg105 489 29 = 0 := z_c (Pz29231) rfl
                have PB243 : B9 lg105 it234 := B9_c PB232 rfl rfl (by rw [em235]; exact u2_ne (by decide)) (by rw [em235]; exact u2_ne (by decide))
                have PW244 : W9 lg105 it234 := W9_c PW233 rfl (by rw [em235]; exact u2_ne (by decide)) (by rw [em235]; exact u2_ne (by decide))
                have e245 : (it234 489 20).toInt = (0 : Int32).toInt := by rw [em235]; exact congrArg Int32.toInt u2_eq
                subst hp
                exact ⟨⟨hI236, hK237⟩, ⟨PB243, PT241⟩⟩
            · try simp only [Int32.lt_iff_toInt_lt, Int32.le_iff_toInt_le, ← Int32.toInt_inj, Int32.toInt_toInt64, ti_m14, ti_m13, ti_m12, ti_m11, ti_m10, ti_m9, ti_m6, ti_m5, ti_m4, ti_m3, ti_m2, ti_m1, ti_0, ti_1, ti_2, ti_3, ti_4, ti_5, ti_6, ti_7, ti_8, ti_9, ti_10, ti_11, ti_12, ti_19, ti_20, ti_21, ti_44, ti_45, ti_48, ti_57, ti_59, ti_60, ti_98, ti_99, ti_100, ti_101, ti_103, ti_108, ti_110, ti_114, ti_127] at c61
              refine ⟨_, s_X9_does  (v110) hI107 (PT114) (Pz29115) (ha111.2.1 (by first | omega | (simp only [Int32.lt_iff_toInt_lt, Int32.le_iff_toInt_le, ← Int32.toInt_inj, Int32.toInt_toInt64, ti_m14, ti_m13, ti_m12, ti_m11, ti_m10, ti_m9, ti_m6, ti_m5, ti_m4, ti_m3, ti_m2, ti_m1, ti_0, ti_1, ti_2, ti_3, ti_4, ti_5, ti_6, ti_7, ti_8, ti_9, ti_10, ti_11, ti_12, ti_19, ti_20, ti_21, ti_44, ti_45, ti_48, ti_57, ti_59, ti_60, ti_98, ti_99, ti_100, ti_101, ti_103, ti_108, ti_110, ti_114, ti_127] at *; omega))) (by have w2 := ha111.2.2; first | omega | (simp only [Int32.lt_iff_toInt_lt, Int32.le_iff_toInt_le, ← Int32.toInt_inj, Int32.toInt_toInt64, ti_m14, ti_m13, ti_m12, ti_m11, ti_m10, ti_m9, ti_m6, ti_m5, ti_m4, ti_m3, ti_m2, ti_m1, ti_0, ti_1, ti_2, ti_3, ti_4, ti_5, ti_6, ti_7, ti_8, ti_9, ti_10, ti_11, ti_12, ti_19, ti_20, ti_21, ti_44, ti_45, ti_48, ti_57, ti_59, ti_60, ti_98, ti_99, ti_100, ti_101, ti_103, ti_108, ti_110, ti_114, ti_127] at *; omega)), ?_⟩
              intro lg246 it247 hq
              obtain ⟨⟨hI248, hK249⟩, ha252⟩ := hq
              have hK250 : Kd (fun j => j = 502 ∨ j = 503 ∨ j = 504 ∨ j = 505 ∨ j = 506 ∨ j = 507 ∨ j = 508 ∨ j = 509 ∨ j = 510 ∨ j = 511 ∨ j = 512) (fun k => k = 18 ∨ k = 19 ∨ k = 20 ∨ k = 28 ∨ k = 29 ∨ k = 33 ∨ k = 34 ∨ k = 35 ∨ k = 36 ∨ k = 37 ∨ k = 38 ∨ k = 39 ∨ k = 40 ∨ k = 41 ∨ k = 42 ∨ k = 43) lg0 it0 lg246 it247 := kd_t hK109 hK249 (fun j hj => by first | omega | exact False.elim hj | (dsimp only at hj ⊢; omega)) (fun j hj => by first | omega | exact False.elim hj | (dsimp only at hj ⊢; omega))
              try have e253 : (it247 489 0).toInt = (it106 489 0).toInt := congrArg Int32.toInt (hK249.2 0 (by first | decide | (dsimp only; decide) | omega | (dsimp only; omega))).2
              try have e254 : (it247 489 42).toInt = (it106 489 42).toInt := congrArg Int32.toInt (hK249.2 42 (by first | decide | (dsimp only; decide) | omega | (dsimp only; omega))).2
              try have e255 : (it247 489 20).toInt = (it106 489 20).toInt := congrArg Int32.toInt (hK249.2 20 (by first | decide | (dsimp only; decide) | omega | (dsimp only; omega))).2
              have PB256 : B9 lg246 it247 := B9_c PB116 (hK249.1 510 (by decide) (by first | decide | (dsimp only; decide) | omega | (dsimp only; omega))).1 (hK249.1 512 (by decide) (by first | decide | (dsimp only; decide) | omega | (dsimp only; omega))).1 (hK249.2 0 (by first | decide | (dsimp only; decide) | omega | (dsimp only; omega))).2 (hK249.2 42 (by first | decide | (dsimp only; decide) | omega | (dsimp only; omega))).2
              have PW257 : W9 lg246 it247 := W9_c ha111.2 (hK249.2 35 (by first | decide | (dsimp only; decide) | omega | (dsimp only; omega))).1 (hK249.2 33 (by first | decide | (dsimp only; decide) | omega | (dsimp only; omega))).2 (hK249.2 0 (by first | decide | (dsimp only; decide) | omega | (dsimp only; omega))).2
              unfold w_X9_goesOn_b69
              have f258 : 0 ≤ (it247 489 20).toInt ∧ (it247 489 20).toInt ≤ 1 := i9_f hI248 (j := 489) (k := 20) rfl
              refine ⟨fun c73 => ?_, fun c73 => ?_⟩
              · try simp only [Int32.lt_iff_toInt_lt, Int32.le_iff_toInt_le, ← Int32.toInt_inj, Int32.toInt_toInt64, ti_m14, ti_m13, ti_m12, ti_m11, ti_m10, ti_m9, ti_m6, ti_m5, ti_m4, ti_m3, ti_m2, ti_m1, ti_0, ti_1, ti_2, ti_3, ti_4, ti_5, ti_6, ti_7, ti_8, ti_9, ti_10, ti_11, ti_12, ti_19, ti_20, ti_21, ti_44, ti_45, ti_48, ti_57, ti_59, ti_60, ti_98, ti_99, ti_100, ti_101, ti_103, ti_108, ti_110, ti_114, ti_127] at c73
                refine ⟨_, s_X9_keeps  (v110) hI248 (by omega) (ha252.1) (ha252.2) (PB256), ?_⟩
                intro lg259 it260 hq
                obtain ⟨⟨hI261, hK262⟩, ha265⟩ := hq
                have hK263 : Kd (fun j => j = 502 ∨ j = 503 ∨ j = 504 ∨ j = 505 ∨ j = 506 ∨ j = 507 ∨ j = 508 ∨ j = 509 ∨ j = 510 ∨ j = 511 ∨ j = 512) (fun k => k = 18 ∨ k = 19 ∨ k = 20 ∨ k = 28 ∨ k = 29 ∨ k = 33 ∨ k = 34 ∨ k = 35 ∨ k = 36 ∨ k = 37 ∨ k = 38 ∨ k = 39 ∨ k = 40 ∨ k = 41 ∨ k = 42 ∨ k = 43) lg0 it0 lg259 it260 := kd_t hK250 hK262 (fun j hj => by first | omega | exact False.elim hj | (dsimp only at hj ⊢; omega)) (fun j hj => by first | omega | exact False.elim hj | (dsimp only at hj ⊢; omega))
                try have e266 : (it260 489 0).toInt = (it247 489 0).toInt := congrArg Int32.toInt (hK262.2 0 (by first | decide | (dsimp only; decide) | omega | (dsimp only; omega))).2
                try have e267 : (it260 489 42).toInt = (it247 489 42).toInt := congrArg Int32.toInt (hK262.2 42 (by first | decide | (dsimp only; decide) | omega | (dsimp only; omega))).2
                try have e268 : (it260 489 20).toInt = (it247 489 20).toInt := congrArg Int32.toInt (hK262.2 20 (by first | decide | (dsimp only; decide) | omega | (dsimp only; omega))).2
                have PW269 : W9 lg259 it260 := W9_c PW257 (hK262.2 35 (by first | decide | (dsimp only; decide) | omega | (dsimp only; omega))).1 (hK262.2 33 (by first | decide | (dsimp only; decide) | omega | (dsimp only; omega))).2 (hK262.2 0 (by first | decide | (dsimp only; decide) | omega | (dsimp only; omega))).2
                have PT270 : T9 lg259 it260 := T9_c ha252.1 (hK262.1 503 (by decide) (by first | decide | (dsimp only; decide) | omega | (dsimp only; omega))).1 (hK262.1 505 (by decide) (by first | decide | (dsimp only; decide) | omega | (dsimp only; omega))).1 (hK262.1 501 (by decide) (by first | decide | (dsimp only; decide) | omega | (dsimp only; omega))).2 (hK262.2 0 (by first | decide | (dsimp only; decide) | omega | (dsimp only; omega))).2
                have Pz29271 : ¬ lg259 489 29 = 0 := z_c (ha252.2) (hK262.2 29 (by first | decide | (dsimp only; decide) | omega | (dsimp only; omega))).1
                have PB272 := ha265.1
                have e273 := ha265.2
                exact ih20  _ _ hI261 hK263 (by refine ⟨?_, ?_, ?_⟩ <;> first | exact Nx_0 | omega | assumption | exact Or.inl rfl | exact Or.inr rfl | exact i8_1 (by assumption) (by assumption) | decide) (by omega)
              · try simp only [Int32.lt_iff_toInt_lt, Int32.le_iff_toInt_le, ← Int32.toInt_inj, Int32.toInt_toInt64, ti_m14, ti_m13, ti_m12, ti_m11, ti_m10, ti_m9, ti_m6, ti_m5, ti_m4, ti_m3, ti_m2, ti_m1, ti_0, ti_1, ti_2, ti_3, ti_4, ti_5, ti_6, ti_7, ti_8, ti_9, ti_10, ti_11, ti_12, ti_19, ti_20, ti_21, ti_44, ti_45, ti_48, ti_57, ti_59, ti_60, ti_98, ti_99, ti_100, ti_101, ti_103, ti_108, ti_110, ti_114, ti_127] at c73
                intro it274 em275
                have hI276 : I9 lg246 it274 := by rw [em275]; exact i9_u hI248 (ok9_n rfl) (by decide) (fun _ => by decide)
                have hK277 : Kd (fun j => j = 502 ∨ j = 503 ∨ j = 504 ∨ j = 505 ∨ j = 506 ∨ j = 507 ∨ j = 508 ∨ j = 509 ∨ j = 510 ∨ j = 511 ∨ j = 512) (fun k => k = 18 ∨ k = 19 ∨ k = 20 ∨ k = 28 ∨ k = 29 ∨ k = 33 ∨ k = 34 ∨ k = 35 ∨ k = 36 ∨ k = 37 ∨ k = 38 ∨ k = 39 ∨ k = 40 ∨ k = 41 ∨ k = 42 ∨ k = 43) lg0 it0 lg246 it274 := by rw [em275]; exact kd_uf (by first | decide | (dsimp only; decide) | omega | (dsimp only; omega)) hK250
                have e278 : (it274 489 0).toInt = (it247 489 0).toInt := by rw [em275]; exact congrArg Int32.toInt (u2_ne (by decide))
                have e279 : (it274 489 42).toInt = (it247 489 42).toInt := by rw [em275]; exact congrArg Int32.toInt (u2_ne (by decide))
                have e280 : (it274 489 20).toInt = (it247 489 20).toInt := by rw [em275]; exact congrArg Int32.toInt (u2_ne (by decide))
                have PB281 : B9 lg246 it274 := B9_c PB256 rfl rfl (by rw [em275]; exact u2_ne (by decide)) (by rw [em275]; exact u2_ne (by decide))
                have PW282 : W9 lg246 it274 := W9_c PW257 rfl (by rw [em275]; exact u2_ne (by decide)) (by rw [em275]; exact u2_ne (by decide))
                have PT283 : T9 lg246 it274 := T9_c ha252.1 rfl rfl (by rw [em275]; exact u2_row (by decide)) (by rw [em275]; exact u2_ne (by decide))
                have Pz29284 : ¬ lg246 489 29 = 0 := z_c (ha252.2) rfl
                intro it285 em286
                have hI287 : I9 lg246 it285 := by rw [em286]; exact i9_u hI276 (ok9_b (a := 0) (b := 1) rfl (by first | decide | ((try simp only [Int32.lt_iff_toInt_lt, Int32.le_iff_toInt_le, ← Int32.toInt_inj, Int32.toInt_toInt64, ti_m14, ti_m13, ti_m12, ti_m11, ti_m10, ti_m9, ti_m6, ti_m5, ti_m4, ti_m3, ti_m2, ti_m1, ti_0, ti_1, ti_2, ti_3, ti_4, ti_5, ti_6, ti_7, ti_8, ti_9, ti_10, ti_11, ti_12, ti_19, ti_20, ti_21, ti_44, ti_45, ti_48, ti_57, ti_59, ti_60, ti_98, ti_99, ti_100, ti_101, ti_103, ti_108, ti_110, ti_114, ti_127]); omega) | (split <;> (try simp only [Int32.lt_iff_toInt_lt, Int32.le_iff_toInt_le, ← Int32.toInt_inj, Int32.toInt_toInt64, ti_m14, ti_m13, ti_m12, ti_m11, ti_m10, ti_m9, ti_m6, ti_m5, ti_m4, ti_m3, ti_m2, ti_m1, ti_0, ti_1, ti_2, ti_3, ti_4, ti_5, ti_6, ti_7, ti_8, ti_9, ti_10, ti_11, ti_12, ti_19, ti_20, ti_21, ti_44, ti_45, ti_48, ti_57, ti_59, ti_60, ti_98, ti_99, ti_100, ti_101, ti_103, ti_108, ti_110, ti_114, ti_127]) <;> omega))) (by decide) (fun _ => by decide)
                have hK288 : Kd (fun j => j = 502 ∨ j = 503 ∨ j = 504 ∨ j = 505 ∨ j = 506 ∨ j = 507 ∨ j = 508 ∨ j = 509 ∨ j = 510 ∨ j = 511 ∨ j = 512) (fun k => k = 18 ∨ k = 19 ∨ k = 20 ∨ k = 28 ∨ k = 29 ∨ k = 33 ∨ k = 34 ∨ k = 35 ∨ k = 36 ∨ k = 37 ∨ k = 38 ∨ k = 39 ∨ k = 40 ∨ k = 41 ∨ k = 42 ∨ k = 43) lg0 it0 lg246 it285 := by rw [em286]; exact kd_uf (by first | decide | (dsimp only; decide) | omega | (dsimp only; omega)) hK277
                have e289 : (it285 489 0).toInt = (it274 489 0).toInt := by rw [em286]; exact congrArg Int32.toInt (u2_ne (by decide))
                have e290 : (it285 489 42).toInt = (it274 489 42).toInt := by rw [em286]; exact congrArg Int32.toInt (u2_ne (by decide))
                have PB292 : B9 lg246 it285 := B9_c PB281 rfl rfl (by rw [em286]; exact u2_ne (by decide)) (by rw [em286]; exact u2_ne (by decide))
                have PW293 : W9 lg246 it285 := W9_c PW282 rfl (by rw [em286]; exact u2_ne (by decide)) (by rw [em286]; exact u2_ne (by decide))
                have PT294 : T9 lg246 it285 := T9_c PT283 rfl rfl (by rw [em286]; exact u2_row (by decide)) (by rw [em286]; exact u2_ne (by decide))
                have Pz29295 : ¬ lg246 489 29 = 0 := z_c (Pz29284) rfl
                have e296 : (it285 489 20).toInt = (0 : Int32).toInt := by rw [em286]; exact congrArg Int32.toInt u2_eq
                subst hp
                exact ⟨⟨hI287, hK288⟩, ⟨PB292, PT294⟩⟩
          · try simp only [Int32.lt_iff_toInt_lt, Int32.le_iff_toInt_le, ← Int32.toInt_inj, Int32.toInt_toInt64, ti_m14, ti_m13, ti_m12, ti_m11, ti_m10, ti_m9, ti_m6, ti_m5, ti_m4, ti_m3, ti_m2, ti_m1, ti_0, ti_1, ti_2, ti_3, ti_4, ti_5, ti_6, ti_7, ti_8, ti_9, ti_10, ti_11, ti_12, ti_19, ti_20, ti_21, ti_44, ti_45, ti_48, ti_57, ti_59, ti_60, ti_98, ti_99, ti_100, ti_101, ti_103, ti_108, ti_110, ti_114, ti_127] at c46
            intro it297 em298
            have hI299 : I9 lg105 it297 := by rw [em298]; exact i9_u hI107 (ok9_n rfl) (by decide) (fun _ => by decide)
            have hK300 : Kd (fun j => j = 502 ∨ j = 503 ∨ j = 504 ∨ j = 505 ∨ j = 506 ∨ j = 507 ∨ j = 508 ∨ j = 509 ∨ j = 510 ∨ j = 511 ∨ j = 512) (fun k => k = 18 ∨ k = 19 ∨ k = 20 ∨ k = 28 ∨ k = 29 ∨ k = 33 ∨ k = 34 ∨ k = 35 ∨ k = 36 ∨ k = 37 ∨ k = 38 ∨ k = 39 ∨ k = 40 ∨ k = 41 ∨ k = 42 ∨ k = 43) lg0 it0 lg105 it297 := by rw [em298]; exact kd_uf (by first | decide | (dsimp only; decide) | omega | (dsimp only; omega)) hK109
            have e301 : (it297 489 0).toInt = (it106 489 0).toInt := by rw [em298]; exact congrArg Int32.toInt (u2_ne (by decide))
            have e302 : (it297 489 42).toInt = (it106 489 42).toInt := by rw [em298]; exact congrArg Int32.toInt (u2_ne (by decide))
            have e303 : (it297 489 20).toInt = (it106 489 20).toInt := by rw [em298]; exact congrArg Int32.toInt (u2_ne (by decide))
            have PT304 : T9 lg105 it297 := T9_c PT114 rfl rfl (by rw [em298]; exact u2_row (by decide)) (by rw [em298]; exact u2_ne (by decide))
            have Pz29305 : ¬ lg105 489 29 = 0 := z_c (Pz29115) rfl
            have PB306 : B9 lg105 it297 := B9_c PB116 rfl rfl (by rw [em298]; exact u2_ne (by decide)) (by rw [em298]; exact u2_ne (by decide))
            have PW307 : W9 lg105 it297 := W9_c ha111.2 rfl (by rw [em298]; exact u2_ne (by decide)) (by rw [em298]; exact u2_ne (by decide))
            intro it308 em309
            have hI310 : I9 lg105 it308 := by rw [em309]; exact i9_u hI299 (ok9_b (a := 0) (b := 1) rfl (by first | decide | ((try simp only [Int32.lt_iff_toInt_lt, Int32.le_iff_toInt_le, ← Int32.toInt_inj, Int32.toInt_toInt64, ti_m14, ti_m13, ti_m12, ti_m11, ti_m10, ti_m9, ti_m6, ti_m5, ti_m4, ti_m3, ti_m2, ti_m1, ti_0, ti_1, ti_2, ti_3, ti_4, ti_5, ti_6, ti_7, ti_8, ti_9, ti_10, ti_11, ti_12, ti_19, ti_20, ti_21, ti_44, ti_45, ti_48, ti_57, ti_59, ti_60, ti_98, ti_99, ti_100, ti_101, ti_103, ti_108, ti_110, ti_114, ti_127]); omega) | (split <;> (try simp only [Int32.lt_iff_toInt_lt, Int32.le_iff_toInt_le, ← Int32.toInt_inj, Int32.toInt_toInt64, ti_m14, ti_m13, ti_m12, ti_m11, ti_m10, ti_m9, ti_m6, ti_m5, ti_m4, ti_m3, ti_m2, ti_m1, ti_0, ti_1, ti_2, ti_3, ti_4, ti_5, ti_6, ti_7, ti_8, ti_9, ti_10, ti_11, ti_12, ti_19, ti_20, ti_21, ti_44, ti_45, ti_48, ti_57, ti_59, ti_60, ti_98, ti_99, ti_100, ti_101, ti_103, ti_108, ti_110, ti_114, ti_127]) <;> omega))) (by decide) (fun _ => by decide)
            have hK311 : Kd (fun j => j = 502 ∨ j = 503 ∨ j = 504 ∨ j = 505 ∨ j = 506 ∨ j = 507 ∨ j = 508 ∨ j = 509 ∨ j = 510 ∨ j = 511 ∨ j = 512) (fun k => k = 18 ∨ k = 19 ∨ k = 20 ∨ k = 28 ∨ k = 29 ∨ k = 33 ∨ k = 34 ∨ k = 35 ∨ k = 36 ∨ k = 37 ∨ k = 38 ∨ k = 39 ∨ k = 40 ∨ k = 41 ∨ k = 42 ∨ k = 43) lg0 it0 lg105 it308 := by rw [em309]; exact kd_uf (by first | decide | (dsimp only; decide) | omega | (dsimp only; omega)) hK300
            have e312 : (it308 489 0).toInt = (it297 489 0).toInt := by rw [em309]; exact congrArg Int32.toInt (u2_ne (by decide))
            have e313 : (it308 489 42).toInt = (it297 489 42).toInt := by rw [em309]; exact congrArg Int32.toInt (u2_ne (by decide))
            have PT315 : T9 lg105 it308 := T9_c PT304 rfl rfl (by rw [em309]; exact u2_row (by decide)) (by rw [em309]; exact u2_ne (by decide))
            have Pz29316 : ¬ lg105 489 29 = 0 := z_c (Pz29305) rfl
            have PB317 : B9 lg105 it308 := B9_c PB306 rfl rfl (by rw [em309]; exact u2_ne (by decide)) (by rw [em309]; exact u2_ne (by decide))
            have PW318 : W9 lg105 it308 := W9_c PW307 rfl (by rw [em309]; exact u2_ne (by decide)) (by rw [em309]; exact u2_ne (by decide))
            have e319 : (it308 489 20).toInt = (0 : Int32).toInt := by rw [em309]; exact congrArg Int32.toInt u2_eq
            subst hp
            exact ⟨⟨hI310, hK311⟩, ⟨PB317, PT315⟩⟩
  exact ⟨_, lp20 ((21 - (it73 489 42).toInt).toNat + 1)  _ _ hI75 hK76 (by refine ⟨?_, ?_, ?_⟩ <;> first | exact Nx_0 | omega | assumption | exact Or.inl rfl | exact Or.inr rfl | exact i8_1 (by assumption) (by assumption) | decide) (Nat.lt_succ_self _)⟩
set_option maxRecDepth 100000 in
theorem s_X9_findAll {lg0 : LGt} {it0 : ITt} (hI : I9 lg0 it0) : w_X9_findAll  (fun (lg' : LGt) (it' : ITt) => (I9 lg' it' ∧ Kd (fun j => j = 501 ∨ j = 502 ∨ j = 503 ∨ j = 504 ∨ j = 505 ∨ j = 506 ∨ j = 507 ∨ j = 508 ∨ j = 509 ∨ j = 510 ∨ j = 511 ∨ j = 512) (fun k => k = 18 ∨ k = 19 ∨ k = 20 ∨ k = 28 ∨ k = 29 ∨ k = 30 ∨ k = 31 ∨ k = 32 ∨ k = 33 ∨ k = 34 ∨ k = 35 ∨ k = 36 ∨ k = 37 ∨ k = 38 ∨ k = 39 ∨ k = 40 ∨ k = 41 ∨ k = 42 ∨ k = 43) lg0 it0 lg' it') ∧ (B9 lg' it' ∧ T9 lg' it'))  lg0 it0 := by
  have hKr : Kd (fun j => j = 501 ∨ j = 502 ∨ j = 503 ∨ j = 504 ∨ j = 505 ∨ j = 506 ∨ j = 507 ∨ j = 508 ∨ j = 509 ∨ j = 510 ∨ j = 511 ∨ j = 512) (fun k => k = 18 ∨ k = 19 ∨ k = 20 ∨ k = 28 ∨ k = 29 ∨ k = 30 ∨ k = 31 ∨ k = 32 ∨ k = 33 ∨ k = 34 ∨ k = 35 ∨ k = 36 ∨ k = 37 ∨ k = 38 ∨ k = 39 ∨ k = 40 ∨ k = 41 ∨ k = 42 ∨ k = 43) lg0 it0 lg0 it0 := kd_r
  generalize hp : (fun (lg' : LGt) (it' : ITt) => (I9 lg' it' ∧ Kd (fun j => j = 501 ∨ j = 502 ∨ j = 503 ∨ j = 504 ∨ j = 505 ∨ j = 506 ∨ j = 507 ∨ j = 508 ∨ j = 509 ∨ j = 510 ∨ j = 511 ∨ j = 512) (fun k => k = 18 ∨ k = 19 ∨ k = 20 ∨ k = 28 ∨ k = 29 ∨ k = 30 ∨ k = 31 ∨ k = 32 ∨ k = 33 ∨ k = 34 ∨ k = 35 ∨ k = 36 ∨ k = 37 ∨ k = 38 ∨ k = 39 ∨ k = 40 ∨ k = 41 ∨ k = 42 ∨ k = 43) lg0 it0 lg' it') ∧ (B9 lg' it' ∧ T9 lg' it')) = Pz
  unfold w_X9_findAll
  refine ⟨_, s_X9_minds   hI , ?_⟩
  intro lg15 it16 hq
  obtain ⟨⟨hI17, hK18⟩, ha21⟩ := hq
  have hK19 : Kd (fun j => j = 501 ∨ j = 502 ∨ j = 503 ∨ j = 504 ∨ j = 505 ∨ j = 506 ∨ j = 507 ∨ j = 508 ∨ j = 509 ∨ j = 510 ∨ j = 511 ∨ j = 512) (fun k => k = 18 ∨ k = 19 ∨ k = 20 ∨ k = 28 ∨ k = 29 ∨ k = 30 ∨ k = 31 ∨ k = 32 ∨ k = 33 ∨ k = 34 ∨ k = 35 ∨ k = 36 ∨ k = 37 ∨ k = 38 ∨ k = 39 ∨ k = 40 ∨ k = 41 ∨ k = 42 ∨ k = 43) lg0 it0 lg15 it16 := kd_t hKr hK18 (fun j hj => by first | omega | exact False.elim hj | (dsimp only at hj ⊢; omega)) (fun j hj => by first | omega | exact False.elim hj | (dsimp only at hj ⊢; omega))
  try have e22 : (it16 489 0).toInt = (it0 489 0).toInt := congrArg Int32.toInt (hK18.2 0 (by first | decide | (dsimp only; decide) | omega | (dsimp only; omega))).2
  refine ⟨_, s_X9_goesOn  ((20 : Int32)) hI17 (ha21) (by first | decide | omega | ((try simp only [Int32.lt_iff_toInt_lt, Int32.le_iff_toInt_le, ← Int32.toInt_inj, Int32.toInt_toInt64, ti_m14, ti_m13, ti_m12, ti_m11, ti_m10, ti_m9, ti_m6, ti_m5, ti_m4, ti_m3, ti_m2, ti_m1, ti_0, ti_1, ti_2, ti_3, ti_4, ti_5, ti_6, ti_7, ti_8, ti_9, ti_10, ti_11, ti_12, ti_19, ti_20, ti_21, ti_44, ti_45, ti_48, ti_57, ti_59, ti_60, ti_98, ti_99, ti_100, ti_101, ti_103, ti_108, ti_110, ti_114, ti_127]); omega)), ?_⟩
  intro lg23 it24 hq
  obtain ⟨⟨hI25, hK26⟩, ha29⟩ := hq
  have hK27 : Kd (fun j => j = 501 ∨ j = 502 ∨ j = 503 ∨ j = 504 ∨ j = 505 ∨ j = 506 ∨ j = 507 ∨ j = 508 ∨ j = 509 ∨ j = 510 ∨ j = 511 ∨ j = 512) (fun k => k = 18 ∨ k = 19 ∨ k = 20 ∨ k = 28 ∨ k = 29 ∨ k = 30 ∨ k = 31 ∨ k = 32 ∨ k = 33 ∨ k = 34 ∨ k = 35 ∨ k = 36 ∨ k = 37 ∨ k = 38 ∨ k = 39 ∨ k = 40 ∨ k = 41 ∨ k = 42 ∨ k = 43) lg0 it0 lg23 it24 := kd_t hK19 hK26 (fun j hj => by first | omega | exact False.elim hj | (dsimp only at hj ⊢; omega)) (fun j hj => by first | omega | exact False.elim hj | (dsimp only at hj ⊢; omega))
  try have e30 : (it24 489 0).toInt = (it16 489 0).toInt := congrArg Int32.toInt (hK26.2 0 (by first | decide | (dsimp only; decide) | omega | (dsimp only; omega))).2
  subst hp
  exact ⟨⟨hI25, hK27⟩, ⟨ha29.1, ha29.2⟩⟩
