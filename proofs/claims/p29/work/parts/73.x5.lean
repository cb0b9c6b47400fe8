/-! the first side: one gap, the next strike -/
set_option maxRecDepth 100000 in
theorem f_X5_reckon {a1 : Nat} (ha1 : a1 ∈ rb) (a2 : Int32) {lg0 : LGt} {it0 : ITt} (hI : I8 lg0 it0) (hb : 0 ≤ a2.toInt ∧ a2.toInt ≤ (it0 a1 0).toInt) (hn : 1 ≤ (it0 a1 0).toInt) (hok : Ok8 it0 a1) : w_X5_reckon a1 a2 (fun (v : Int32) (lg' : LGt) (it' : ITt) => (I8 lg' it' ∧ Kc (fun j => (439 ≤ j ∧ j < 441)) lg0 it0 lg' it') ∧ ((v = 0 ∧ gap (vw8 lg0 it0 a1) a2.toNatClampNeg = none) ∨ (v = 1 ∧ gap (vw8 lg0 it0 a1) a2.toNatClampNeg = some (abF (fv lg' it' 439)))))  lg0 it0 := by
  have hb_a2 := And.intro a2.le_toInt a2.toInt_lt
  have hKr : Kc (fun j => (439 ≤ j ∧ j < 441)) lg0 it0 lg0 it0 := kc_r
  generalize hp : (fun (v : Int32) (lg' : LGt) (it' : ITt) => (I8 lg' it' ∧ Kc (fun j => (439 ≤ j ∧ j < 441)) lg0 it0 lg' it') ∧ ((v = 0 ∧ gap (vw8 lg0 it0 a1) a2.toNatClampNeg = none) ∨ (v = 1 ∧ gap (vw8 lg0 it0 a1) a2.toNatClampNeg = some (abF (fv lg' it' 439))))) = Pz
  unfold w_X5_reckon
  have hfar := rb_far ha1
  have hk2 := cl32 hb.1
  have hkn := cl32 (i := it0 a1 0) (by omega)
  have h6 := i8_3 hI (obr ha1)
  have hl0 : 0 < (it0 a1 0).toNatClampNeg := by omega
  refine ⟨fun c1 => ?_, fun c1 => ?_⟩
  · try simp only [Int32.lt_iff_toInt_lt, Int32.le_iff_toInt_le, ← Int32.toInt_inj, Int32.toInt_toInt64, ti_m14, ti_m13, ti_m12, ti_m11, ti_m10, ti_m9, ti_m6, ti_m5, ti_m4, ti_m3, ti_m2, ti_m1, ti_0, ti_1, ti_2, ti_3, ti_4, ti_5, ti_6, ti_7, ti_8, ti_9, ti_10, ti_11, ti_12, ti_19, ti_20, ti_21, ti_44, ti_45, ti_48, ti_57, ti_59, ti_60, ti_98, ti_99, ti_100, ti_101, ti_103, ti_108, ti_110, ti_114, ti_127] at c1
    have f87 : 0 ≤ (it0 a1 0).toInt ∧ (it0 a1 0).toInt ≤ 6 := i8_3 hI (obr ha1)
    refine ⟨fun c72 => ?_, fun c72 => ?_⟩
    · try simp only [Int32.lt_iff_toInt_lt, Int32.le_iff_toInt_le, ← Int32.toInt_inj, Int32.toInt_toInt64, ti_m14, ti_m13, ti_m12, ti_m11, ti_m10, ti_m9, ti_m6, ti_m5, ti_m4, ti_m3, ti_m2, ti_m1, ti_0, ti_1, ti_2, ti_3, ti_4, ti_5, ti_6, ti_7, ti_8, ti_9, ti_10, ti_11, ti_12, ti_19, ti_20, ti_21, ti_44, ti_45, ti_48, ti_57, ti_59, ti_60, ti_98, ti_99, ti_100, ti_101, ti_103, ti_108, ti_110, ti_114, ti_127] at c72
      try have f88 : ((a2 - 1) : Int32).toInt = (a2).toInt - 1 := sb32 (a := (a2).toInt) (b := 1) (rfl) (ti_1) (by omega) (by omega)
      have hi89 : vp_in (a2 - 1) 6 := vp_of (by first | omega | ((try simp only [Int32.lt_iff_toInt_lt, Int32.le_iff_toInt_le, ← Int32.toInt_inj, Int32.toInt_toInt64, ti_m14, ti_m13, ti_m12, ti_m11, ti_m10, ti_m9, ti_m6, ti_m5, ti_m4, ti_m3, ti_m2, ti_m1, ti_0, ti_1, ti_2, ti_3, ti_4, ti_5, ti_6, ti_7, ti_8, ti_9, ti_10, ti_11, ti_12, ti_19, ti_20, ti_21, ti_44, ti_45, ti_48, ti_57, ti_59, ti_60, ti_98, ti_99, ti_100, ti_101, ti_103, ti_108, ti_110, ti_114, ti_127]); omega) | (split <;> omega)) (by first | omega | ((try simp only [Int32.lt_iff_toInt_lt, Int32.le_iff_toInt_le, ← Int32.toInt_inj, Int32.toInt_toInt64, ti_m14, ti_m13, ti_m12, ti_m11, ti_m10, ti_m9, ti_m6, ti_m5, ti_m4, ti_m3, ti_m2, ti_m1, ti_0, ti_1, ti_2, ti_3, ti_4, ti_5, ti_6, ti_7, ti_8, ti_9, ti_10, ti_11, ti_12, ti_19, ti_20, ti_21, ti_44, ti_45, ti_48, ti_57, ti_59, ti_60, ti_98, ti_99, ti_100, ti_101, ti_103, ti_108, ti_110, ti_114, ti_127]); omega) | (split <;> omega))
      refine ⟨hi89, ?_⟩
      have hz90 := vlt hi89
      have hc93 : it0 (a1 + 5 + 2 * (a2 - 1).toNatClampNeg) 2 &&& 1 = it0 (a1 + 5 + 2 * (a2 - 1).toNatClampNeg) 2 := ib (i8_1 hI ((rpo5 ha1 (vlt (hi89)))))
      refine ⟨hc93, ?_⟩
      intro lg91 em_lg91 it92 em_it92
      have hI94 : I8 lg91 it92 := by rw [em_it92]; exact i8_u hI (ok8_1 (oq_440) (fun _ => i8_1 hI ((rpo5 ha1 (vlt (hi89))))))
      have hK95 : Kc (fun j => (439 ≤ j ∧ j < 441)) lg0 it0 lg91 it92 := by rw [em_lg91, em_it92]; exact kc_f (by first | omega | (dsimp only; omega)) hKr
      have tf96 : abF (fv lg0 it0 (a1 + 5 + 2 * (a2 - 1).toNatClampNeg)) = (some (rS (vw8 lg0 it0 a1) (a2.toNatClampNeg - 1))) := tS (i := (a2.toNatClampNeg - 1)) (j := (a2 - 1).toNatClampNeg) hKr hok (cl_sub1 (by omega)) (by have z := cl_sub1 (a := a2) (by omega); omega) (by first | omega | (dsimp only; omega))
      have T97 : abF (fv lg91 it92 440) = (some (rS (vw8 lg0 it0 a1) (a2.toNatClampNeg - 1))) := by rw [em_lg91, em_it92]; exact (congrArg abF fv_a3).trans tf96
      try have e98 : (it92 a1 0).toInt = (it0 a1 0).toInt := by rw [em_it92]; exact congrArg Int32.toInt (congrFun (u2_row (by omega)) 0)
      have hi99 : vp_in a2 6 := vp_of (by first | omega | ((try simp only [Int32.lt_iff_toInt_lt, Int32.le_iff_toInt_le, ← Int32.toInt_inj, Int32.toInt_toInt64, ti_m14, ti_m13, ti_m12, ti_m11, ti_m10, ti_m9, ti_m6, ti_m5, ti_m4, ti_m3, ti_m2, ti_m1, ti_0, ti_1, ti_2, ti_3, ti_4, ti_5, ti_6, ti_7, ti_8, ti_9, ti_10, ti_11, ti_12, ti_19, ti_20, ti_21, ti_44, ti_45, ti_48, ti_57, ti_59, ti_60, ti_98, ti_99, ti_100, ti_101, ti_103, ti_108, ti_110, ti_114, ti_127]); omega) | (split <;> omega)) (by first | omega | ((try simp only [Int32.lt_iff_toInt_lt, Int32.le_iff_toInt_le, ← Int32.toInt_inj, Int32.toInt_toInt64, ti_m14, ti_m13, ti_m12, ti_m11, ti_m10, ti_m9, ti_m6, ti_m5, ti_m4, ti_m3, ti_m2, ti_m1, ti_0, ti_1, ti_2, ti_3, ti_4, ti_5, ti_6, ti_7, ti_8, ti_9, ti_10, ti_11, ti_12, ti_19, ti_20, ti_21, ti_44, ti_45, ti_48, ti_57, ti_59, ti_60, ti_98, ti_99, ti_100, ti_101, ti_103, ti_108, ti_110, ti_114, ti_127]); omega) | (split <;> omega))
      refine ⟨hi99, ?_⟩
      have hz100 := vlt hi99
      intro q101 em_q101 lg102 em_lg102 it103 em_it103
      have hI104 : I8 lg102 it103 := by rw [em_it103]; exact i8_u hI94 (ok8_1 (oq_440) (fun _ => by rw [em_q101]; exact stF_01 _ _ _ _ _))
      have hK105 : Kc (fun j => (439 ≤ j ∧ j < 441)) lg0 it0 lg102 it103 := by rw [em_lg102, em_it103]; exact kc_f (by first | omega | (dsimp only; omega)) hK95
      have tf106 : abF (fv lg91 it92 (a1 + 5 + 2 * a2.toNatClampNeg)) = (some (rS (vw8 lg0 it0 a1) a2.toNatClampNeg)) := tS (i := a2.toNatClampNeg) (j := a2.toNatClampNeg) hK95 hok (rfl) (by omega) (by first | omega | (dsimp only; omega))
      have T107 : abF (fv lg102 it103 440) = (oL (some (rS (vw8 lg0 it0 a1) (a2.toNatClampNeg - 1))) (some (rS (vw8 lg0 it0 a1) a2.toNatClampNeg))) := by rw [em_lg102, em_it103, fv_at, em_q101, ab_l, T97, tf106]
      try have e108 : (it103 a1 0).toInt = (it92 a1 0).toInt := by rw [em_it103]; exact congrArg Int32.toInt (congrFun (u2_row (by omega)) 0)
      refine ⟨fun c181 => ?_, fun c181 => ?_⟩
      · try simp only [Int32.lt_iff_toInt_lt, Int32.le_iff_toInt_le, ← Int32.toInt_inj, Int32.toInt_toInt64, ti_m14, ti_m13, ti_m12, ti_m11, ti_m10, ti_m9, ti_m6, ti_m5, ti_m4, ti_m3, ti_m2, ti_m1, ti_0, ti_1, ti_2, ti_3, ti_4, ti_5, ti_6, ti_7, ti_8, ti_9, ti_10, ti_11, ti_12, ti_19, ti_20, ti_21, ti_44, ti_45, ti_48, ti_57, ti_59, ti_60, ti_98, ti_99, ti_100, ti_101, ti_103, ti_108, ti_110, ti_114, ti_127] at c181
        unfold w_X5_reckon_b198
        have hi109 : vp_in a2 6 := vp_of (by first | omega | ((try simp only [Int32.lt_iff_toInt_lt, Int32.le_iff_toInt_le, ← Int32.toInt_inj, Int32.toInt_toInt64, ti_m14, ti_m13, ti_m12, ti_m11, ti_m10, ti_m9, ti_m6, ti_m5, ti_m4, ti_m3, ti_m2, ti_m1, ti_0, ti_1, ti_2, ti_3, ti_4, ti_5, ti_6, ti_7, ti_8, ti_9, ti_10, ti_11, ti_12, ti_19, ti_20, ti_21, ti_44, ti_45, ti_48, ti_57, ti_59, ti_60, ti_98, ti_99, ti_100, ti_101, ti_103, ti_108, ti_110, ti_114, ti_127]); omega) | (split <;> omega)) (by first | omega | ((try simp only [Int32.lt_iff_toInt_lt, Int32.le_iff_toInt_le, ← Int32.toInt_inj, Int32.toInt_toInt64, ti_m14, ti_m13, ti_m12, ti_m11, ti_m10, ti_m9, ti_m6, ti_m5, ti_m4, ti_m3, ti_m2, ti_m1, ti_0, ti_1, ti_2, ti_3, ti_4, ti_5, ti_6, ti_7, ti_8, ti_9, ti_10, ti_11, ti_12, ti_19, ti_20, ti_21, ti_44, ti_45, ti_48, ti_57, ti_59, ti_60, ti_98, ti_99, ti_100, ti_101, ti_103, ti_108, ti_110, ti_114, ti_127]); omega) | (split <;> omega))
        refine ⟨hi109, ?_⟩
        have hz110 := vlt hi109
        have hc113 : it103 (a1 + 4 + 2 * a2.toNatClampNeg) 2 &&& 1 = it103 (a1 + 4 + 2 * a2.toNatClampNeg) 2 := ib (i8_1 hI104 ((rpo4 ha1 (vlt (hi109)))))
        refine ⟨hc113, ?_⟩
        intro lg111 em_lg111 it112 em_it112
        have hI114 : I8 lg111 it112 := by rw [em_it112]; exact i8_u hI104 (ok8_1 (oq_439) (fun _ => i8_1 hI104 ((rpo4 ha1 (vlt (hi109))))))
        have hK115 : Kc (fun j => (439 ≤ j ∧ j < 441)) lg0 it0 lg111 it112 := by rw [em_lg111, em_it112]; exact kc_f (by first | omega | (dsimp only; omega)) hK105
        have tf116 : abF (fv lg102 it103 (a1 + 4 + 2 * a2.toNatClampNeg)) = (some (rP (vw8 lg0 it0 a1) a2.toNatClampNeg)) := tP (i := a2.toNatClampNeg) (j := a2.toNatClampNeg) hK105 hok (rfl) (by omega) (by first | omega | (dsimp only; omega))
        have T117 : abF (fv lg111 it112 439) = (some (rP (vw8 lg0 it0 a1) a2.toNatClampNeg)) := by rw [em_lg111, em_it112]; exact (congrArg abF fv_a3).trans tf116
        have T118 : abF (fv lg111 it112 440) = (oL (some (rS (vw8 lg0 it0 a1) (a2.toNatClampNeg - 1))) (some (rS (vw8 lg0 it0 a1) a2.toNatClampNeg))) := by rw [em_lg111, em_it112, fv_ne (by omega)]; exact T107
        try have e119 : (it112 a1 0).toInt = (it103 a1 0).toInt := by rw [em_it112]; exact congrArg Int32.toInt (congrFun (u2_row (by omega)) 0)
        have e120 : (it112 440 2).toInt = (it103 440 2).toInt := by rw [em_it112]; exact congrArg Int32.toInt (congrFun (u2_row (by decide)) 2)
        try have f121 : ((a2 - 1) : Int32).toInt = (a2).toInt - 1 := sb32 (a := (a2).toInt) (b := 1) (rfl) (ti_1) (by omega) (by omega)
        have hi122 : vp_in (a2 - 1) 6 := vp_of (by first | omega | ((try simp only [Int32.lt_iff_toInt_lt, Int32.le_iff_toInt_le, ← Int32.toInt_inj, Int32.toInt_toInt64, ti_m14, ti_m13, ti_m12, ti_m11, ti_m10, ti_m9, ti_m6, ti_m5, ti_m4, ti_m3, ti_m2, ti_m1, ti_0, ti_1, ti_2, ti_3, ti_4, ti_5, ti_6, ti_7, ti_8, ti_9, ti_10, ti_11, ti_12, ti_19, ti_20, ti_21, ti_44, ti_45, ti_48, ti_57, ti_59, ti_60, ti_98, ti_99, ti_100, ti_101, ti_103, ti_108, ti_110, ti_114, ti_127]); omega) | (split <;> omega)) (by first | omega | ((try simp only [Int32.lt_iff_toInt_lt, Int32.le_iff_toInt_le, ← Int32.toInt_inj, Int32.toInt_toInt64, ti_m14, ti_m13, ti_m12, ti_m11, ti_m10, ti_m9, ti_m6, ti_m5, ti_m4, ti_m3, ti_m2, ti_m1, ti_0, ti_1, ti_2, ti_3, ti_4, ti_5, ti_6, ti_7, ti_8, ti_9, ti_10, ti_11, ti_12, ti_19, ti_20, ti_21, ti_44, ti_45, ti_48, ti_57, ti_59, ti_60, ti_98, ti_99, ti_100, ti_101, ti_103, ti_108, ti_110, ti_114, ti_127]); omega) | (split <;> omega))
        refine ⟨hi122, ?_⟩
        have hz123 := vlt hi122
        intro q124 em_q124 lg125 em_lg125 it126 em_it126
        have hI127 : I8 lg125 it126 := by rw [em_it126]; exact i8_u hI114 (ok8_1 (oq_439) (fun _ => by rw [em_q124]; exact stF_01 _ _ _ _ _))
        have hK128 : Kc (fun j => (439 ≤ j ∧ j < 441)) lg0 it0 lg125 it126 := by rw [em_lg125, em_it126]; exact kc_f (by first | omega | (dsimp only; omega)) hK115
        have tf129 : abF (fv lg111 it112 (a1 + 4 + 2 * (a2 - 1).toNatClampNeg)) = (some (rP (vw8 lg0 it0 a1) (a2.toNatClampNeg - 1))) := tP (i := (a2.toNatClampNeg - 1)) (j := (a2 - 1).toNatClampNeg) hK115 hok (cl_sub1 (by omega)) (by have z := cl_sub1 (a := a2) (by omega); omega) (by first | omega | (dsimp only; omega))
        have T130 : abF (fv lg125 it126 439) = (oL (some (rP (vw8 lg0 it0 a1) a2.toNatClampNeg)) (some (rP (vw8 lg0 it0 a1) (a2.toNatClampNeg - 1)))) := by rw [em_lg125, em_it126, fv_at, em_q124, ab_l, T117, tf129]
        have T131 : abF (fv lg125 it126 440) = (oL (some (rS (vw8 lg0 it0 a1) (a2.toNatClampNeg - 1))) (some (rS (vw8 lg0 it0 a1) a2.toNatClampNeg))) := by rw [em_lg125, em_it126, fv_ne (by omega)]; exact T118
        try have e132 : (it126 a1 0).toInt = (it112 a1 0).toInt := by rw [em_it126]; exact congrArg Int32.toInt (congrFun (u2_row (by omega)) 0)
        have e133 : (it126 440 2).toInt = (it112 440 2).toInt := by rw [em_it126]; exact congrArg Int32.toInt (congrFun (u2_row (by decide)) 2)
        unfold w_X5_reckon_b226
        intro q134 em_q134 lg135 em_lg135 it136 em_it136
        have hI137 : I8 lg135 it136 := by rw [em_it136]; exact i8_u hI127 (ok8_1 (oq_439) (fun _ => by rw [em_q134]; exact stF_01 _ _ _ _ _))
        have hK138 : Kc (fun j => (439 ≤ j ∧ j < 441)) lg0 it0 lg135 it136 := by rw [em_lg135, em_it136]; exact kc_f (by first | omega | (dsimp only; omega)) hK128
        have T139 : abF (fv lg135 it136 439) = (oB (oL (some (rP (vw8 lg0 it0 a1) a2.toNatClampNeg)) (some (rP (vw8 lg0 it0 a1) (a2.toNatClampNeg - 1)))) (oL (some (rS (vw8 lg0 it0 a1) (a2.toNatClampNeg - 1))) (some (rS (vw8 lg0 it0 a1) a2.toNatClampNeg)))) := by rw [em_lg135, em_it136, fv_at, em_q134, ab_b, T130, T131]
        have T140 : abF (fv lg135 it136 440) = (oL (some (rS (vw8 lg0 it0 a1) (a2.toNatClampNeg - 1))) (some (rS (vw8 lg0 it0 a1) a2.toNatClampNeg))) := by rw [em_lg135, em_it136, fv_ne (by omega)]; exact T131
        try have e141 : (it136 a1 0).toInt = (it126 a1 0).toInt := by rw [em_it136]; exact congrArg Int32.toInt (congrFun (u2_row (by omega)) 0)
        have e142 : (it136 440 2).toInt = (it126 440 2).toInt := by rw [em_it136]; exact congrArg Int32.toInt (congrFun (u2_row (by decide)) 2)
        subst hp
        exact ⟨⟨hI137, hK138⟩, Or.inr ⟨rfl, (gp_io (by omega) (by show ¬ a2.toNatClampNeg = (it0 a1 0).toNatClampNeg; omega) T107 c181).trans (congrArg some T139.symm)⟩⟩
      · try simp only [Int32.lt_iff_toInt_lt, Int32.le_iff_toInt_le, ← Int32.toInt_inj, Int32.toInt_toInt64, ti_m14, ti_m13, ti_m12, ti_m11, ti_m10, ti_m9, ti_m6, ti_m5, ti_m4, ti_m3, ti_m2, ti_m1, ti_0, ti_1, ti_2, ti_3, ti_4, ti_5, ti_6, ti_7, ti_8, ti_9, ti_10, ti_11, ti_12, ti_19, ti_20, ti_21, ti_44, ti_45, ti_48, ti_57, ti_59, ti_60, ti_98, ti_99, ti_100, ti_101, ti_103, ti_108, ti_110, ti_114, ti_127] at c181
        refine ⟨fun c193 => ?_, fun c193 => ?_⟩
        · try simp only [Int32.lt_iff_toInt_lt, Int32.le_iff_toInt_le, ← Int32.toInt_inj, Int32.toInt_toInt64, ti_m14, ti_m13, ti_m12, ti_m11, ti_m10, ti_m9, ti_m6, ti_m5, ti_m4, ti_m3, ti_m2, ti_m1, ti_0, ti_1, ti_2, ti_3, ti_4, ti_5, ti_6, ti_7, ti_8, ti_9, ti_10, ti_11, ti_12, ti_19, ti_20, ti_21, ti_44, ti_45, ti_48, ti_57, ti_59, ti_60, ti_98, ti_99, ti_100, ti_101, ti_103, ti_108, ti_110, ti_114, ti_127] at c193
          unfold w_X5_reckon_b198
          have hi143 : vp_in a2 6 := vp_of (by first | omega | ((try simp only [Int32.lt_iff_toInt_lt, Int32.le_iff_toInt_le, ← Int32.toInt_inj, Int32.toInt_toInt64, ti_m14, ti_m13, ti_m12, ti_m11, ti_m10, ti_m9, ti_m6, ti_m5, ti_m4, ti_m3, ti_m2, ti_m1, ti_0, ti_1, ti_2, ti_3, ti_4, ti_5, ti_6, ti_7, ti_8, ti_9, ti_10, ti_11, ti_12, ti_19, ti_20, ti_21, ti_44, ti_45, ti_48, ti_57, ti_59, ti_60, ti_98, ti_99, ti_100, ti_101, ti_103, ti_108, ti_110, ti_114, ti_127]); omega) | (split <;> omega)) (by first | omega | ((try simp only [Int32.lt_iff_toInt_lt, Int32.le_iff_toInt_le, ← Int32.toInt_inj, Int32.toInt_toInt64, ti_m14, ti_m13, ti_m12, ti_m11, ti_m10, ti_m9, ti_m6, ti_m5, ti_m4, ti_m3, ti_m2, ti_m1, ti_0, ti_1, ti_2, ti_3, ti_4, ti_5, ti_6, ti_7, ti_8, ti_9, ti_10, ti_11, ti_12, ti_19, ti_20, ti_21, ti_44, ti_45, ti_48, ti_57, ti_59, ti_60, ti_98, ti_99, ti_100, ti_101, ti_103, ti_108, ti_110, ti_114, ti_127]); omega) | (split <;> omega))
          refine ⟨hi143, ?_⟩
          have hz144 := vlt hi143
          have hc147 : it103 (a1 + 4 + 2 * a2.toNatClampNeg) 2 &&& 1 = it103 (a1 + 4 + 2 * a2.toNatClampNeg) 2 := ib (i8_1 hI104 ((rpo4 ha1 (vlt (hi143)))))
          refine ⟨hc147, ?_⟩
          intro lg145 em_lg145 it146 em_it146
          have hI148 : I8 lg145 it146 := by rw [em_it146]; exact i8_u hI104 (ok8_1 (oq_439) (fun _ => i8_1 hI104 ((rpo4 ha1 (vlt (hi143))))))
          have hK149 : Kc (fun j => (439 ≤ j ∧ j < 441)) lg0 it0 lg145 it146 := by rw [em_lg145, em_it146]; exact kc_f (by first | omega | (dsimp only; omega)) hK105
          have tf150 : abF (fv lg102 it103 (a1 + 4 + 2 * a2.toNatClampNeg)) = (some (rP (vw8 lg0 it0 a1) a2.toNatClampNeg)) := tP (i := a2.toNatClampNeg) (j := a2.toNatClampNeg) hK105 hok (rfl) (by omega) (by first | omega | (dsimp only; omega))
          have T151 : abF (fv lg145 it146 439) = (some (rP (vw8 lg0 it0 a1) a2.toNatClampNeg)) := by rw [em_lg145, em_it146]; exact (congrArg abF fv_a3).trans tf150
          have T152 : abF (fv lg145 it146 440) = (oL (some (rS (vw8 lg0 it0 a1) (a2.toNatClampNeg - 1))) (some (rS (vw8 lg0 it0 a1) a2.toNatClampNeg))) := by rw [em_lg145, em_it146, fv_ne (by omega)]; exact T107
          try have e153 : (it146 a1 0).toInt = (it103 a1 0).toInt := by rw [em_it146]; exact congrArg Int32.toInt (congrFun (u2_row (by omega)) 0)
          have e154 : (it146 440 2).toInt = (it103 440 2).toInt := by rw [em_it146]; exact congrArg Int32.toInt (congrFun (u2_row (by decide)) 2)
          try have f155 : ((a2 - 1) : Int32).toInt = (a2).toInt - 1 := sb32 (a := (a2).toInt) (b := 1) (rfl) (ti_1) (by omega) (by omega)
          have hi156 : vp_in (a2 - 1) 6 := vp_of (by first | omega | ((try simp only [Int32.lt_iff_toInt_lt, Int32.le_iff_toInt_le, ← Int32.toInt_inj, Int32.toInt_toInt64, ti_m14, ti_m13, ti_m12, ti_m11, ti_m10, ti_m9, ti_m6, ti_m5, ti_m4, ti_m3, ti_m2, ti_m1, ti_0, ti_1, ti_2, ti_3, ti_4, ti_5, ti_6, ti_7, ti_8, ti_9, ti_10, ti_11, ti_12, ti_19, ti_20, ti_21, ti_44, ti_45, ti_48, ti_57, ti_59, ti_60, ti_98, ti_99, ti_100, ti_101, ti_103, ti_108, ti_110, ti_114, ti_127]); omega) | (split <;> omega)) (by first | omega | ((try simp only [Int32.lt_iff_toInt_lt, Int32.le_iff_toInt_le, ← Int32.toInt_inj, Int32.toInt_toInt64, ti_m14, ti_m13, ti_m12, ti_m11, ti_m10, ti_m9, ti_m6, ti_m5, ti_m4, ti_m3, ti_m2, ti_m1, ti_0, ti_1, ti_2, ti_3, ti_4, ti_5, ti_6, ti_7, ti_8, ti_9, ti_10, ti_11, ti_12, ti_19, ti_20, ti_21, ti_44, ti_45, ti_48, ti_57, ti_59, ti_60, ti_98, ti_99, ti_100, ti_101, ti_103, ti_108, ti_110, ti_114, ti_127]); omega) | (split <;> omega))
          refine ⟨hi156, ?_⟩
          have hz157 := vlt hi156
          intro q158 em_q158 lg159 em_lg159 it160 em_it160
          have hI161 : I8 lg159 it160 := by rw [em_it160]; exact i8_u hI148 (ok8_1 (oq_439) (fun _ => by rw [em_q158]; exact stF_01 _ _ _ _ _))
          have hK162 : Kc (fun j => (439 ≤ j ∧ j < 441)) lg0 it0 lg159 it160 := by rw [em_lg159, em_it160]; exact kc_f (by first | omega | (dsimp only; omega)) hK149
          have tf163 : abF (fv lg145 it146 (a1 + 4 + 2 * (a2 - 1).toNatClampNeg)) = (some (rP (vw8 lg0 it0 a1) (a2.toNatClampNeg - 1))) := tP (i := (a2.toNatClampNeg - 1)) (j := (a2 - 1).toNatClampNeg) hK149 hok (cl_sub1 (by omega)) (by have z := cl_sub1 (a := a2) (by omega); omega) (by first | omega | (dsimp only; omega))
          have T164 : abF (fv lg159 it160 439) = (oL (some (rP (vw8 lg0 it0 a1) a2.toNatClampNeg)) (some (rP (vw8 lg0 it0 a1) (a2.toNatClampNeg - 1)))) := by rw [em_lg159, em_it160, fv_at, em_q158, ab_l, T151, tf163]
          have T165 : abF (fv lg159 it160 440) = (oL (some (rS (vw8 lg0 it0 a1) (a2.toNatClampNeg - 1))) (some (rS (vw8 lg0 it0 a1) a2.toNatClampNeg))) := by rw [em_lg159, em_it160, fv_ne (by omega)]; exact T152
          try have e166 : (it160 a1 0).toInt = (it146 a1 0).toInt := by rw [em_it160]; exact congrArg Int32.toInt (congrFun (u2_row (by omega)) 0)
          have e167 : (it160 440 2).toInt = (it146 440 2).toInt := by rw [em_it160]; exact congrArg Int32.toInt (congrFun (u2_row (by decide)) 2)
          unfold w_X5_reckon_b226
          intro q168 em_q168 lg169 em_lg169 it170 em_it170
          have hI171 : I8 lg169 it170 := by rw [em_it170]; exact i8_u hI161 (ok8_1 (oq_439) (fun _ => by rw [em_q168]; exact stF_01 _ _ _ _ _))
          have hK172 : Kc (fun j => (439 ≤ j ∧ j < 441)) lg0 it0 lg169 it170 := by rw [em_lg169, em_it170]; exact kc_f (by first | omega | (dsimp only; omega)) hK162
          have T173 : abF (fv lg169 it170 439) = (oB (oL (some (rP (vw8 lg0 it0 a1) a2.toNatClampNeg)) (some (rP (vw8 lg0 it0 a1) (a2.toNatClampNeg - 1)))) (oL (some (rS (vw8 lg0 it0 a1) (a2.toNatClampNeg - 1))) (some (rS (vw8 lg0 it0 a1) a2.toNatClampNeg)))) := by rw [em_lg169, em_it170, fv_at, em_q168, ab_b, T164, T165]
          have T174 : abF (fv lg169 it170 440) = (oL (some (rS (vw8 lg0 it0 a1) (a2.toNatClampNeg - 1))) (some (rS (vw8 lg0 it0 a1) a2.toNatClampNeg))) := by rw [em_lg169, em_it170, fv_ne (by omega)]; exact T165
          try have e175 : (it170 a1 0).toInt = (it160 a1 0).toInt := by rw [em_it170]; exact congrArg Int32.toInt (congrFun (u2_row (by omega)) 0)
          have e176 : (it170 440 2).toInt = (it160 440 2).toInt := by rw [em_it170]; exact congrArg Int32.toInt (congrFun (u2_row (by decide)) 2)
          subst hp
          exact ⟨⟨hI171, hK172⟩, Or.inr ⟨rfl, (gp_i (by omega) (by show ¬ a2.toNatClampNeg = (it0 a1 0).toNatClampNeg; omega) T107 c181 c193).trans (congrArg some T173.symm)⟩⟩
        · try simp only [Int32.lt_iff_toInt_lt, Int32.le_iff_toInt_le, ← Int32.toInt_inj, Int32.toInt_toInt64, ti_m14, ti_m13, ti_m12, ti_m11, ti_m10, ti_m9, ti_m6, ti_m5, ti_m4, ti_m3, ti_m2, ti_m1, ti_0, ti_1, ti_2, ti_3, ti_4, ti_5, ti_6, ti_7, ti_8, ti_9, ti_10, ti_11, ti_12, ti_19, ti_20, ti_21, ti_44, ti_45, ti_48, ti_57, ti_59, ti_60, ti_98, ti_99, ti_100, ti_101, ti_103, ti_108, ti_110, ti_114, ti_127] at c193
          subst hp
          exact ⟨⟨hI104, hK105⟩, Or.inl ⟨rfl, gp_in (by omega) (by show ¬ a2.toNatClampNeg = (it0 a1 0).toNatClampNeg; omega) T107 c181 c193⟩⟩
    · try simp only [Int32.lt_iff_toInt_lt, Int32.le_iff_toInt_le, ← Int32.toInt_inj, Int32.toInt_toInt64, ti_m14, ti_m13, ti_m12, ti_m11, ti_m10, ti_m9, ti_m6, ti_m5, ti_m4, ti_m3, ti_m2, ti_m1, ti_0, ti_1, ti_2, ti_3, ti_4, ti_5, ti_6, ti_7, ti_8, ti_9, ti_10, ti_11, ti_12, ti_19, ti_20, ti_21, ti_44, ti_45, ti_48, ti_57, ti_59, ti_60, ti_98, ti_99, ti_100, ti_101, ti_103, ti_108, ti_110, ti_114, ti_127] at c72
      refine ⟨fun c82 => ?_, fun c82 => ?_⟩
      · try simp only [Int32.lt_iff_toInt_lt, Int32.le_iff_toInt_le, ← Int32.toInt_inj, Int32.toInt_toInt64, ti_m14, ti_m13, ti_m12, ti_m11, ti_m10, ti_m9, ti_m6, ti_m5, ti_m4, ti_m3, ti_m2, ti_m1, ti_0, ti_1, ti_2, ti_3, ti_4, ti_5, ti_6, ti_7, ti_8, ti_9, ti_10, ti_11, ti_12, ti_19, ti_20, ti_21, ti_44, ti_45, ti_48, ti_57, ti_59, ti_60, ti_98, ti_99, ti_100, ti_101, ti_103, ti_108, ti_110, ti_114, ti_127] at c82
        subst hp
        exact ⟨⟨hI, hKr⟩, Or.inl ⟨rfl, gp_nn (by omega) (by show a2.toNatClampNeg = (it0 a1 0).toNatClampNeg; omega) c82⟩⟩
      · try simp only [Int32.lt_iff_toInt_lt, Int32.le_iff_toInt_le, ← Int32.toInt_inj, Int32.toInt_toInt64, ti_m14, ti_m13, ti_m12, ti_m11, ti_m10, ti_m9, ti_m6, ti_m5, ti_m4, ti_m3, ti_m2, ti_m1, ti_0, ti_1, ti_2, ti_3, ti_4, ti_5, ti_6, ti_7, ti_8, ti_9, ti_10, ti_11, ti_12, ti_19, ti_20, ti_21, ti_44, ti_45, ti_48, ti_57, ti_59, ti_60, ti_98, ti_99, ti_100, ti_101, ti_103, ti_108, ti_110, ti_114, ti_127] at c82
        try have f177 : ((a2 - 1) : Int32).toInt = (a2).toInt - 1 := sb32 (a := (a2).toInt) (b := 1) (rfl) (ti_1) (by omega) (by omega)
        have hi178 : vp_in (a2 - 1) 6 := vp_of (by first | omega | ((try simp only [Int32.lt_iff_toInt_lt, Int32.le_iff_toInt_le, ← Int32.toInt_inj, Int32.toInt_toInt64, ti_m14, ti_m13, ti_m12, ti_m11, ti_m10, ti_m9, ti_m6, ti_m5, ti_m4, ti_m3, ti_m2, ti_m1, ti_0, ti_1, ti_2, ti_3, ti_4, ti_5, ti_6, ti_7, ti_8, ti_9, ti_10, ti_11, ti_12, ti_19, ti_20, ti_21, ti_44, ti_45, ti_48, ti_57, ti_59, ti_60, ti_98, ti_99, ti_100, ti_101, ti_103, ti_108, ti_110, ti_114, ti_127]); omega) | (split <;> omega)) (by first | omega | ((try simp only [Int32.lt_iff_toInt_lt, Int32.le_iff_toInt_le, ← Int32.toInt_inj, Int32.toInt_toInt64, ti_m14, ti_m13, ti_m12, ti_m11, ti_m10, ti_m9, ti_m6, ti_m5, ti_m4, ti_m3, ti_m2, ti_m1, ti_0, ti_1, ti_2, ti_3, ti_4, ti_5, ti_6, ti_7, ti_8, ti_9, ti_10, ti_11, ti_12, ti_19, ti_20, ti_21, ti_44, ti_45, ti_48, ti_57, ti_59, ti_60, ti_98, ti_99, ti_100, ti_101, ti_103, ti_108, ti_110, ti_114, ti_127]); omega) | (split <;> omega))
        refine ⟨hi178, ?_⟩
        have hz179 := vlt hi178
        refine ⟨fun c98 => ?_, fun c98 => ?_⟩
        · try simp only [Int32.lt_iff_toInt_lt, Int32.le_iff_toInt_le, ← Int32.toInt_inj, Int32.toInt_toInt64, ti_m14, ti_m13, ti_m12, ti_m11, ti_m10, ti_m9, ti_m6, ti_m5, ti_m4, ti_m3, ti_m2, ti_m1, ti_0, ti_1, ti_2, ti_3, ti_4, ti_5, ti_6, ti_7, ti_8, ti_9, ti_10, ti_11, ti_12, ti_19, ti_20, ti_21, ti_44, ti_45, ti_48, ti_57, ti_59, ti_60, ti_98, ti_99, ti_100, ti_101, ti_103, ti_108, ti_110, ti_114, ti_127] at c98
          try have f180 : ((a2 - 1) : Int32).toInt = (a2).toInt - 1 := sb32 (a := (a2).toInt) (b := 1) (rfl) (ti_1) (by omega) (by omega)
          have hi181 : vp_in (a2 - 1) 6 := vp_of (by first | omega | ((try simp only [Int32.lt_iff_toInt_lt, Int32.le_iff_toInt_le, ← Int32.toInt_inj, Int32.toInt_toInt64, ti_m14, ti_m13, ti_m12, ti_m11, ti_m10, ti_m9, ti_m6, ti_m5, ti_m4, ti_m3, ti_m2, ti_m1, ti_0, ti_1, ti_2, ti_3, ti_4, ti_5, ti_6, ti_7, ti_8, ti_9, ti_10, ti_11, ti_12, ti_19, ti_20, ti_21, ti_44, ti_45, ti_48, ti_57, ti_59, ti_60, ti_98, ti_99, ti_100, ti_101, ti_103, ti_108, ti_110, ti_114, ti_127]); omega) | (split <;> omega)) (by first | omega | ((try simp only [Int32.lt_iff_toInt_lt, Int32.le_iff_toInt_le, ← Int32.toInt_inj, Int32.toInt_toInt64, ti_m14, ti_m13, ti_m12, ti_m11, ti_m10, ti_m9, ti_m6, ti_m5, ti_m4, ti_m3, ti_m2, ti_m1, ti_0, ti_1, ti_2, ti_3, ti_4, ti_5, ti_6, ti_7, ti_8, ti_9, ti_10, ti_11, ti_12, ti_19, ti_20, ti_21, ti_44, ti_45, ti_48, ti_57, ti_59, ti_60, ti_98, ti_99, ti_100, ti_101, ti_103, ti_108, ti_110, ti_114, ti_127]); omega) | (split <;> omega))
          refine ⟨hi181, ?_⟩
          have hz182 := vlt hi181
          have hc185 : it0 (a1 + 5 + 2 * (a2 - 1).toNatClampNeg) 2 &&& 1 = it0 (a1 + 5 + 2 * (a2 - 1).toNatClampNeg) 2 := ib (i8_1 hI ((rpo5 ha1 (vlt (hi181)))))
          refine ⟨hc185, ?_⟩
          intro lg183 em_lg183 it184 em_it184
          have hI186 : I8 lg183 it184 := by rw [em_it184]; exact i8_u hI (ok8_1 (oq_440) (fun _ => i8_1 hI ((rpo5 ha1 (vlt (hi181))))))
          have hK187 : Kc (fun j => (439 ≤ j ∧ j < 441)) lg0 it0 lg183 it184 := by rw [em_lg183, em_it184]; exact kc_f (by first | omega | (dsimp only; omega)) hKr
          have tf188 : abF (fv lg0 it0 (a1 + 5 + 2 * (a2 - 1).toNatClampNeg)) = (some (rS (vw8 lg0 it0 a1) (a2.toNatClampNeg - 1))) := tS (i := (a2.toNatClampNeg - 1)) (j := (a2 - 1).toNatClampNeg) hKr hok (cl_sub1 (by omega)) (by have z := cl_sub1 (a := a2) (by omega); omega) (by first | omega | (dsimp only; omega))
          have T189 : abF (fv lg183 it184 440) = (some (rS (vw8 lg0 it0 a1) (a2.toNatClampNeg - 1))) := by rw [em_lg183, em_it184]; exact (congrArg abF fv_a3).trans tf188
          try have e190 : (it184 a1 0).toInt = (it0 a1 0).toInt := by rw [em_it184]; exact congrArg Int32.toInt (congrFun (u2_row (by omega)) 0)
          intro lg191 em_lg191 it192 em_it192
          have hI193 : I8 lg191 it192 := by rw [em_it192]; exact i8_u hI186 (ok8_1 (oq_439) (fun _ => Or.inl rfl))
          have hK194 : Kc (fun j => (439 ≤ j ∧ j < 441)) lg0 it0 lg191 it192 := by rw [em_lg191, em_it192]; exact kc_f (by first | omega | (dsimp only; omega)) hK187
          have T195 : abF (fv lg191 it192 439) = (some ((100 : Int64), 1)) := by rw [em_lg191, em_it192]; exact (congrArg abF fv_a3).trans (abF_0 rfl)
          have T196 : abF (fv lg191 it192 440) = (some (rS (vw8 lg0 it0 a1) (a2.toNatClampNeg - 1))) := by rw [em_lg191, em_it192, fv_ne (by omega)]; exact T189
          try have e197 : (it192 a1 0).toInt = (it184 a1 0).toInt := by rw [em_it192]; exact congrArg Int32.toInt (congrFun (u2_row (by omega)) 0)
          try have f198 : ((a2 - 1) : Int32).toInt = (a2).toInt - 1 := sb32 (a := (a2).toInt) (b := 1) (rfl) (ti_1) (by omega) (by omega)
          have hi199 : vp_in (a2 - 1) 6 := vp_of (by first | omega | ((try simp only [Int32.lt_iff_toInt_lt, Int32.le_iff_toInt_le, ← Int32.toInt_inj, Int32.toInt_toInt64, ti_m14, ti_m13, ti_m12, ti_m11, ti_m10, ti_m9, ti_m6, ti_m5, ti_m4, ti_m3, ti_m2, ti_m1, ti_0, ti_1, ti_2, ti_3, ti_4, ti_5, ti_6, ti_7, ti_8, ti_9, ti_10, ti_11, ti_12, ti_19, ti_20, ti_21, ti_44, ti_45, ti_48, ti_57, ti_59, ti_60, ti_98, ti_99, ti_100, ti_101, ti_103, ti_108, ti_110, ti_114, ti_127]); omega) | (split <;> omega)) (by first | omega | ((try simp only [Int32.lt_iff_toInt_lt, Int32.le_iff_toInt_le, ← Int32.toInt_inj, Int32.toInt_toInt64, ti_m14, ti_m13, ti_m12, ti_m11, ti_m10, ti_m9, ti_m6, ti_m5, ti_m4, ti_m3, ti_m2, ti_m1, ti_0, ti_1, ti_2, ti_3, ti_4, ti_5, ti_6, ti_7, ti_8, ti_9, ti_10, ti_11, ti_12, ti_19, ti_20, ti_21, ti_44, ti_45, ti_48, ti_57, ti_59, ti_60, ti_98, ti_99, ti_100, ti_101, ti_103, ti_108, ti_110, ti_114, ti_127]); omega) | (split <;> omega))
          refine ⟨hi199, ?_⟩
          have hz200 := vlt hi199
          intro q201 em_q201 lg202 em_lg202 it203 em_it203
          have hI204 : I8 lg202 it203 := by rw [em_it203]; exact i8_u hI193 (ok8_1 (oq_439) (fun _ => by rw [em_q201]; exact stF_01 _ _ _ _ _))
          have hK205 : Kc (fun j => (439 ≤ j ∧ j < 441)) lg0 it0 lg202 it203 := by rw [em_lg202, em_it203]; exact kc_f (by first | omega | (dsimp only; omega)) hK194
          have tf206 : abF (fv lg191 it192 (a1 + 4 + 2 * (a2 - 1).toNatClampNeg)) = (some (rP (vw8 lg0 it0 a1) (a2.toNatClampNeg - 1))) := tP (i := (a2.toNatClampNeg - 1)) (j := (a2 - 1).toNatClampNeg) hK194 hok (cl_sub1 (by omega)) (by have z := cl_sub1 (a := a2) (by omega); omega) (by first | omega | (dsimp only; omega))
          have T207 : abF (fv lg202 it203 439) = (oL (some ((100 : Int64), 1)) (some (rP (vw8 lg0 it0 a1) (a2.toNatClampNeg - 1)))) := by rw [em_lg202, em_it203, fv_at, em_q201, ab_l, T195, tf206]
          have T208 : abF (fv lg202 it203 440) = (some (rS (vw8 lg0 it0 a1) (a2.toNatClampNeg - 1))) := by rw [em_lg202, em_it203, fv_ne (by omega)]; exact T196
          try have e209 : (it203 a1 0).toInt = (it192 a1 0).toInt := by rw [em_it203]; exact congrArg Int32.toInt (congrFun (u2_row (by omega)) 0)
          unfold w_X5_reckon_b226
          intro q210 em_q210 lg211 em_lg211 it212 em_it212
          have hI213 : I8 lg211 it212 := by rw [em_it212]; exact i8_u hI204 (ok8_1 (oq_439) (fun _ => by rw [em_q210]; exact stF_01 _ _ _ _ _))
          have hK214 : Kc (fun j => (439 ≤ j ∧ j < 441)) lg0 it0 lg211 it212 := by rw [em_lg211, em_it212]; exact kc_f (by first | omega | (dsimp only; omega)) hK205
          have T215 : abF (fv lg211 it212 439) = (oB (oL (some ((100 : Int64), 1)) (some (rP (vw8 lg0 it0 a1) (a2.toNatClampNeg - 1)))) (some (rS (vw8 lg0 it0 a1) (a2.toNatClampNeg - 1)))) := by rw [em_lg211, em_it212, fv_at, em_q210, ab_b, T207, T208]
          have T216 : abF (fv lg211 it212 440) = (some (rS (vw8 lg0 it0 a1) (a2.toNatClampNeg - 1))) := by rw [em_lg211, em_it212, fv_ne (by omega)]; exact T208
          try have e217 : (it212 a1 0).toInt = (it203 a1 0).toInt := by rw [em_it212]; exact congrArg Int32.toInt (congrFun (u2_row (by omega)) 0)
          subst hp
          exact ⟨⟨hI213, hK214⟩, Or.inr ⟨rfl, (gp_n (by omega) (by show a2.toNatClampNeg = (it0 a1 0).toNatClampNeg; omega) (by have z := vS_lt (lg := lg0) (r := a1) (i := a2.toNatClampNeg - 1) (it := it0) (by omega); exact z) c82 (by have z := cl_sub1 (a := a2) (by omega); rw [← z]; exact c98)).trans (congrArg some T215.symm)⟩⟩
        · try simp only [Int32.lt_iff_toInt_lt, Int32.le_iff_toInt_le, ← Int32.toInt_inj, Int32.toInt_toInt64, ti_m14, ti_m13, ti_m12, ti_m11, ti_m10, ti_m9, ti_m6, ti_m5, ti_m4, ti_m3, ti_m2, ti_m1, ti_0, ti_1, ti_2, ti_3, ti_4, ti_5, ti_6, ti_7, ti_8, ti_9, ti_10, ti_11, ti_12, ti_19, ti_20, ti_21, ti_44, ti_45, ti_48, ti_57, ti_59, ti_60, ti_98, ti_99, ti_100, ti_101, ti_103, ti_108, ti_110, ti_114, ti_127] at c98
          subst hp
          exact ⟨⟨hI, hKr⟩, Or.inl ⟨rfl, gp_np (by omega) (by show a2.toNatClampNeg = (it0 a1 0).toNatClampNeg; omega) (by have z := vS_lt (lg := lg0) (r := a1) (i := a2.toNatClampNeg - 1) (it := it0) (by omega); exact z) (by have z := cl_sub1 (a := a2) (by omega); rw [← z]; exact c98)⟩⟩
  · try simp only [Int32.lt_iff_toInt_lt, Int32.le_iff_toInt_le, ← Int32.toInt_inj, Int32.toInt_toInt64, ti_m14, ti_m13, ti_m12, ti_m11, ti_m10, ti_m9, ti_m6, ti_m5, ti_m4, ti_m3, ti_m2, ti_m1, ti_0, ti_1, ti_2, ti_3, ti_4, ti_5, ti_6, ti_7, ti_8, ti_9, ti_10, ti_11, ti_12, ti_19, ti_20, ti_21, ti_44, ti_45, ti_48, ti_57, ti_59, ti_60, ti_98, ti_99, ti_100, ti_101, ti_103, ti_108, ti_110, ti_114, ti_127] at c1
    refine ⟨fun c11 => ?_, fun c11 => ?_⟩
    · try simp only [Int32.lt_iff_toInt_lt, Int32.le_iff_toInt_le, ← Int32.toInt_inj, Int32.toInt_toInt64, ti_m14, ti_m13, ti_m12, ti_m11, ti_m10, ti_m9, ti_m6, ti_m5, ti_m4, ti_m3, ti_m2, ti_m1, ti_0, ti_1, ti_2, ti_3, ti_4, ti_5, ti_6, ti_7, ti_8, ti_9, ti_10, ti_11, ti_12, ti_19, ti_20, ti_21, ti_44, ti_45, ti_48, ti_57, ti_59, ti_60, ti_98, ti_99, ti_100, ti_101, ti_103, ti_108, ti_110, ti_114, ti_127] at c11
      subst hp
      exact ⟨⟨hI, hKr⟩, Or.inl ⟨rfl, gp_0n (by omega) c11⟩⟩
    · try simp only [Int32.lt_iff_toInt_lt, Int32.le_iff_toInt_le, ← Int32.toInt_inj, Int32.toInt_toInt64, ti_m14, ti_m13, ti_m12, ti_m11, ti_m10, ti_m9, ti_m6, ti_m5, ti_m4, ti_m3, ti_m2, ti_m1, ti_0, ti_1, ti_2, ti_3, ti_4, ti_5, ti_6, ti_7, ti_8, ti_9, ti_10, ti_11, ti_12, ti_19, ti_20, ti_21, ti_44, ti_45, ti_48, ti_57, ti_59, ti_60, ti_98, ti_99, ti_100, ti_101, ti_103, ti_108, ti_110, ti_114, ti_127] at c11
      refine ⟨fun c25 => ?_, fun c25 => ?_⟩
      · try simp only [Int32.lt_iff_toInt_lt, Int32.le_iff_toInt_le, ← Int32.toInt_inj, Int32.toInt_toInt64, ti_m14, ti_m13, ti_m12, ti_m11, ti_m10, ti_m9, ti_m6, ti_m5, ti_m4, ti_m3, ti_m2, ti_m1, ti_0, ti_1, ti_2, ti_3, ti_4, ti_5, ti_6, ti_7, ti_8, ti_9, ti_10, ti_11, ti_12, ti_19, ti_20, ti_21, ti_44, ti_45, ti_48, ti_57, ti_59, ti_60, ti_98, ti_99, ti_100, ti_101, ti_103, ti_108, ti_110, ti_114, ti_127] at c25
        intro lg218 em_lg218 it219 em_it219
        have hI220 : I8 lg218 it219 := by rw [em_it219]; exact i8_u hI (ok8_1 (oq_440) (fun _ => Or.inl rfl))
        have hK221 : Kc (fun j => (439 ≤ j ∧ j < 441)) lg0 it0 lg218 it219 := by rw [em_lg218, em_it219]; exact kc_f (by first | omega | (dsimp only; omega)) hKr
        have T222 : abF (fv lg218 it219 440) = (some ((0 : Int64), 1)) := by rw [em_lg218, em_it219]; exact (congrArg abF fv_a3).trans (abF_0 rfl)
        intro q223 em_q223 lg224 em_lg224 it225 em_it225
        have hI226 : I8 lg224 it225 := by rw [em_it225]; exact i8_u hI220 (ok8_1 (oq_440) (fun _ => by rw [em_q223]; exact stF_01 _ _ _ _ _))
        have hK227 : Kc (fun j => (439 ≤ j ∧ j < 441)) lg0 it0 lg224 it225 := by rw [em_lg224, em_it225]; exact kc_f (by first | omega | (dsimp only; omega)) hK221
        have tf228 : abF (fv lg218 it219 (a1 + 5)) = (some (rS (vw8 lg0 it0 a1) 0)) := tS (i := 0) (j := 0) hK221 hok (rfl) (hl0) (by first | omega | (dsimp only; omega))
        have T229 : abF (fv lg224 it225 440) = (oL (some ((0 : Int64), 1)) (some (rS (vw8 lg0 it0 a1) 0))) := by rw [em_lg224, em_it225, fv_at, em_q223, ab_l, T222, tf228]
        have hc232 : it225 (a1 + 4) 2 &&& 1 = it225 (a1 + 4) 2 := ib (i8_1 hI226 ((rpo4 ha1 (show 0 < 6 by decide))))
        refine ⟨hc232, ?_⟩
        intro lg230 em_lg230 it231 em_it231
        have hI233 : I8 lg230 it231 := by rw [em_it231]; exact i8_u hI226 (ok8_1 (oq_439) (fun _ => i8_1 hI226 ((rpo4 ha1 (show 0 < 6 by decide)))))
        have hK234 : Kc (fun j => (439 ≤ j ∧ j < 441)) lg0 it0 lg230 it231 := by rw [em_lg230, em_it231]; exact kc_f (by first | omega | (dsimp only; omega)) hK227
        have tf235 : abF (fv lg224 it225 (a1 + 4)) = (some (rP (vw8 lg0 it0 a1) 0)) := tP (i := 0) (j := 0) hK227 hok (rfl) (hl0) (by first | omega | (dsimp only; omega))
        have T236 : abF (fv lg230 it231 439) = (some (rP (vw8 lg0 it0 a1) 0)) := by rw [em_lg230, em_it231]; exact (congrArg abF fv_a3).trans tf235
        have T237 : abF (fv lg230 it231 440) = (oL (some ((0 : Int64), 1)) (some (rS (vw8 lg0 it0 a1) 0))) := by rw [em_lg230, em_it231, fv_ne (by omega)]; exact T229
        unfold w_X5_reckon_b226
        intro q238 em_q238 lg239 em_lg239 it240 em_it240
        have hI241 : I8 lg239 it240 := by rw [em_it240]; exact i8_u hI233 (ok8_1 (oq_439) (fun _ => by rw [em_q238]; exact stF_01 _ _ _ _ _))
        have hK242 : Kc (fun j => (439 ≤ j ∧ j < 441)) lg0 it0 lg239 it240 := by rw [em_lg239, em_it240]; exact kc_f (by first | omega | (dsimp only; omega)) hK234
        have T243 : abF (fv lg239 it240 439) = (oB (some (rP (vw8 lg0 it0 a1) 0)) (oL (some ((0 : Int64), 1)) (some (rS (vw8 lg0 it0 a1) 0)))) := by rw [em_lg239, em_it240, fv_at, em_q238, ab_b, T236, T237]
        have T244 : abF (fv lg239 it240 440) = (oL (some ((0 : Int64), 1)) (some (rS (vw8 lg0 it0 a1) 0))) := by rw [em_lg239, em_it240, fv_ne (by omega)]; exact T237
        subst hp
        exact ⟨⟨hI241, hK242⟩, Or.inr ⟨rfl, (gp_0 (by omega) (vS_lt (i := 0) hl0) c11 c25).trans (congrArg some T243.symm)⟩⟩
      · try simp only [Int32.lt_iff_toInt_lt, Int32.le_iff_toInt_le, ← Int32.toInt_inj, Int32.toInt_toInt64, ti_m14, ti_m13, ti_m12, ti_m11, ti_m10, ti_m9, ti_m6, ti_m5, ti_m4, ti_m3, ti_m2, ti_m1, ti_0, ti_1, ti_2, ti_3, ti_4, ti_5, ti_6, ti_7, ti_8, ti_9, ti_10, ti_11, ti_12, ti_19, ti_20, ti_21, ti_44, ti_45, ti_48, ti_57, ti_59, ti_60, ti_98, ti_99, ti_100, ti_101, ti_103, ti_108, ti_110, ti_114, ti_127] at c25
        subst hp
        exact ⟨⟨hI, hKr⟩, Or.inl ⟨rfl, gp_0p (by omega) (vS_lt (i := 0) hl0) c25⟩⟩
theorem tsm {lg : LGt} {it : ITt} {c : Nat} {X : Option QQ} (h : abF (fv lg it c) = X) (ho : (it c 2).toInt = 0) : X = some (lg c 0, lg c 1) := by rw [← h]; exact abF_0 (Int32.toInt_inj.mp (ho.trans ti_0.symm))
theorem tno {lg : LGt} {it : ITt} {c : Nat} {X : Option QQ} (h : abF (fv lg it c) = X) (ho : ¬ (it c 2).toInt = 0) : X = none := by rw [← h]; exact abF_1 (fun q => ho (by rw [show it c 2 = 0 from q, ti_0]))
/-- the least so far -/
def Fnd (V : Rlv) (x : Int32) (k : Nat) (L : Option QQ) : Prop := (x.toInt = -5 ∧ scan V k = some none) ∨ (∃ w d, x.toInt = cw V w ∧ scan V k = some (some (w, d)) ∧ L = some d)
def Res (V : Rlv) (v : Int32) (L : Option QQ) : Prop := (v.toInt = -5 ∧ nxt V = some none) ∨ (v.toInt = -6 ∧ nxt V = none) ∨ (∃ w d, v.toInt = cw V w ∧ nxt V = some (some (w, d)) ∧ L = some d)
theorem cw_ge (V : Rlv) (w : Nat) : 0 ≤ cw V w := by unfold cw; split <;> omega
theorem cw_n {V : Rlv} {w : Nat} (h : w = rN V) : cw V w = 9 := if_pos h
theorem cw_i {V : Rlv} {w : Nat} (h : ¬ w = rN V) : cw V w = w := if_neg h
theorem fnd_i {V : Rlv} {x : Int32} {L : Option QQ} (h : x.toInt = -5) : Fnd V x (0 : Int32).toNatClampNeg L := Or.inl ⟨h, rfl⟩
theorem fnd_0 {V : Rlv} {x : Int32} {k : Nat} {L : Option QQ} (h : Fnd V x k L) (g : gap V k = none) : Fnd V x (k + 1) L := by
  have e : scan V (k + 1) = scan V k := by
    show nsc (scan V k) k (gap V k) = _
    rw [g]
    cases scan V k with
    | none => rfl
    | some b => rfl
  unfold Fnd
  rw [e]
  exact h
theorem fnd_o1 {V : Rlv} {x : Int32} {k : Nat} {L X : Option QQ} (h : Fnd V x k L) (g : gap V k = some X) (e : X = none) : scan V (k + 1) = none := by
  show nsc (scan V k) k (gap V k) = _
  rw [g, e]
  rcases h with ⟨_, z⟩ | ⟨w, d, _, z, _⟩ <;> rw [z] <;> rfl
theorem fnd_n1 {V : Rlv} {x y : Int32} {k : Nat} {L X : Option QQ} {d : QQ} (h : Fnd V x k L) (c : x.toInt = -5) (g : gap V k = some X) (e : X = some d) (hy : y.toInt = cw V k) : Fnd V y (k + 1) X := by
  subst e
  refine Or.inr ⟨k, d, hy, ?_, rfl⟩
  show nsc (scan V k) k (gap V k) = _
  rw [g]
  rcases h with ⟨_, z⟩ | ⟨w, d2, z2, z, _⟩
  · rw [z]; rfl
  · have := cw_ge V w; omega
theorem fnd_o2 {V : Rlv} {x : Int32} {k : Nat} {L X : Option QQ} (h : Fnd V x k L) (c : ¬ x.toInt = -5) (g : gap V k = some X) (e : oL X L = none) : scan V (k + 1) = none := by
  show nsc (scan V k) k (gap V k) = _
  rw [g]
  rcases h with ⟨z, _⟩ | ⟨w, d, _, z, hl⟩
  · exact absurd z c
  · rw [z]
    subst hl
    cases X with
    | none => rfl
    | some x => show (match oL (some x) (some d) with | none => none | some r => _) = _; rw [e]
theorem fnd_k {V : Rlv} {x : Int32} {k : Nat} {L X : Option QQ} {r : QQ} (h : Fnd V x k L) (c : ¬ x.toInt = -5) (g : gap V k = some X) (e : oL X L = some r) (hr : 0 ≤ r.1) : Fnd V x (k + 1) L := by
  rcases h with ⟨z, _⟩ | ⟨w, d, hx, z, hl⟩
  · exact absurd z c
  · refine Or.inr ⟨w, d, hx, ?_, hl⟩
    show nsc (scan V k) k (gap V k) = _
    rw [g, z]
    subst hl
    cases X with
    | none => cases e
    | some x =>
      show (match oL (some x) (some d) with | none => none | some r => if r.1 < 0 then some (some (k, x)) else some (some (w, d))) = _
      rw [e]
      exact if_neg (Int64.not_lt.mpr hr)
theorem fnd_n2 {V : Rlv} {x y : Int32} {k : Nat} {L X : Option QQ} {r : QQ} (h : Fnd V x k L) (c : ¬ x.toInt = -5) (g : gap V k = some X) (e : oL X L = some r) (hr : ¬ 0 ≤ r.1) (hy : y.toInt = cw V k) : Fnd V y (k + 1) X := by
  rcases h with ⟨z, _⟩ | ⟨w, d, hx, z, hl⟩
  · exact absurd z c
  · subst hl
    cases X with
    | none => cases e
    | some x =>
      refine Or.inr ⟨k, x, hy, ?_, rfl⟩
      show nsc (scan V k) k (gap V k) = _
      rw [g, z]
      show (match oL (some x) (some d) with | none => none | some r => if r.1 < 0 then some (some (k, x)) else some (some (w, d))) = _
      rw [e]
      exact if_pos (Int64.not_le.mp hr)
theorem nx_0 {V : Rlv} (h : rN V = 0) : nxt V = some none := if_pos h
theorem scan_n {V : Rlv} {k : Nat} (h : scan V k = none) : ∀ m, scan V (k + m) = none
  | 0 => h
  | m + 1 => by
    show nsc (scan V (k + m)) (k + m) _ = none
    rw [scan_n h m]
    rfl
theorem nx_n {V : Rlv} {k : Nat} (h : scan V k = none) (hk : k ≤ rN V + 1) (hn : ¬ rN V = 0) : nxt V = none := by
  unfold nxt
  rw [if_neg hn]
  obtain ⟨m, e⟩ : ∃ m, rN V + 1 = k + m := ⟨rN V + 1 - k, by omega⟩
  rw [e]
  exact scan_n h m
theorem fnd_r {V : Rlv} {x : Int32} {k : Nat} {L : Option QQ} (h : Fnd V x k L) (hk : k = rN V + 1) (hn : ¬ rN V = 0) : Res V x L := by
  subst hk
  have e : nxt V = scan V (rN V + 1) := if_neg hn
  unfold Res
  rw [e]
  rcases h with h | ⟨w, d, a, b, c⟩
  · exact Or.inl h
  · exact Or.inr (Or.inr ⟨w, d, a, b, c⟩)
set_option maxRecDepth 100000 in
theorem f_X5_find {a1 : Nat} (ha1 : a1 ∈ rb) {lg0 : LGt} {it0 : ITt} (hI : I8 lg0 it0) (hok : Ok8 it0 a1) : w_X5_find a1 (fun (v : Int32) (lg' : LGt) (it' : ITt) => (I8 lg' it' ∧ Kc (fun j => (438 ≤ j ∧ j < 442)) lg0 it0 lg' it') ∧ Res (vw8 lg0 it0 a1) v (abF (fv lg' it' 438)))  lg0 it0 := by
  have hKr : Kc (fun j => (438 ≤ j ∧ j < 442)) lg0 it0 lg0 it0 := kc_r
  generalize hp : (fun (v : Int32) (lg' : LGt) (it' : ITt) => (I8 lg' it' ∧ Kc (fun j => (438 ≤ j ∧ j < 442)) lg0 it0 lg' it') ∧ Res (vw8 lg0 it0 a1) v (abF (fv lg' it' 438))) = Pz
  unfold w_X5_find
  have hfar := rb_far ha1
  have h6 := i8_3 hI (obr ha1)
  have tm5 := ti_m5
  have tm6 := ti_m6
  have t9 := ti_9
  have f38 : 0 ≤ (it0 a1 0).toInt ∧ (it0 a1 0).toInt ≤ 6 := i8_3 hI (obr ha1)
  refine ⟨fun c7 => ?_, fun c7 => ?_⟩
  · try simp only [Int32.lt_iff_toInt_lt, Int32.le_iff_toInt_le, ← Int32.toInt_inj, Int32.toInt_toInt64, ti_m14, ti_m13, ti_m12, ti_m11, ti_m10, ti_m9, ti_m6, ti_m5, ti_m4, ti_m3, ti_m2, ti_m1, ti_0, ti_1, ti_2, ti_3, ti_4, ti_5, ti_6, ti_7, ti_8, ti_9, ti_10, ti_11, ti_12, ti_19, ti_20, ti_21, ti_44, ti_45, ti_48, ti_57, ti_59, ti_60, ti_98, ti_99, ti_100, ti_101, ti_103, ti_108, ti_110, ti_114, ti_127] at c7
    have lp14 : ∀ (n : Nat) (x2 : Int32) (x3 : Int32) (lg : LGt) (it : ITt), I8 lg it → Kc (fun j => (438 ≤ j ∧ j < 442)) lg0 it0 lg it → ((0 ≤ (x3).toInt) ∧ ((x3).toInt ≤ (it0 a1 0).toInt + 1) ∧ (Fnd (vw8 lg0 it0 a1) x2 (x3).toNatClampNeg (abF (fv lg it 438)))) → (8 - (x3).toInt).toNat < n → w_X5_find_b14 a1 Pz  n x2 x3 lg it := by
      intro n14
      induction n14 with
      | zero => intro x2 x3 lg it _ _ _ hn; exact absurd hn (Nat.not_lt_zero _)
      | succ n14 ih14 =>
        intro x2 x3 lg41 it42 hI39 hK40 hv hn
        unfold w_X5_find_b14
        obtain ⟨hv14_0, hv14_1, hv14_2⟩ := hv
        have e0 : (it42 a1 0).toInt = (it0 a1 0).toInt := congrArg (fun f => Int32.toInt (f 0)) (hK40 a1 (by first | omega | (dsimp only; omega))).2
        generalize hL : abF (fv lg41 it42 438) = L at hv14_2
        have f43 : 0 ≤ (it42 a1 0).toInt ∧ (it42 a1 0).toInt ≤ 6 := i8_3 hI39 (obr ha1)
        refine ⟨fun c19 => ?_, fun c19 => ?_⟩
        · try simp only [Int32.lt_iff_toInt_lt, Int32.le_iff_toInt_le, ← Int32.toInt_inj, Int32.toInt_toInt64, ti_m14, ti_m13, ti_m12, ti_m11, ti_m10, ti_m9, ti_m6, ti_m5, ti_m4, ti_m3, ti_m2, ti_m1, ti_0, ti_1, ti_2, ti_3, ti_4, ti_5, ti_6, ti_7, ti_8, ti_9, ti_10, ti_11, ti_12, ti_19, ti_20, ti_21, ti_44, ti_45, ti_48, ti_57, ti_59, ti_60, ti_98, ti_99, ti_100, ti_101, ti_103, ti_108, ti_110, ti_114, ti_127] at c19
          subst hp
          exact ⟨⟨hI39, hK40⟩, by rw [hL]; exact fnd_r hv14_2 (by have z := cl32 (i := x3) (by omega); have zn := cl32 (i := it0 a1 0) (by omega); show x3.toNatClampNeg = (it0 a1 0).toNatClampNeg + 1; omega) (by have zn := cl32 (i := it0 a1 0) (by omega); show ¬ (it0 a1 0).toNatClampNeg = 0; omega)⟩
        · try simp only [Int32.lt_iff_toInt_lt, Int32.le_iff_toInt_le, ← Int32.toInt_inj, Int32.toInt_toInt64, ti_m14, ti_m13, ti_m12, ti_m11, ti_m10, ti_m9, ti_m6, ti_m5, ti_m4, ti_m3, ti_m2, ti_m1, ti_0, ti_1, ti_2, ti_3, ti_4, ti_5, ti_6, ti_7, ti_8, ti_9, ti_10, ti_11, ti_12, ti_19, ti_20, ti_21, ti_44, ti_45, ti_48, ti_57, ti_59, ti_60, ti_98, ti_99, ti_100, ti_101, ti_103, ti_108, ti_110, ti_114, ti_127] at c19
          refine ⟨_, f_X5_reckon (ha1) (x3) hI39 (by omega) (by omega) ((vw8_k ha1 hI hK40 (fun j a b => by first | omega | (dsimp only; omega))).2 hok), ?_⟩
          intro v49 lg44 it45 hq
          obtain ⟨⟨hI46, hK47⟩, ha50⟩ := hq
          have hK48 : Kc (fun j => (438 ≤ j ∧ j < 442)) lg0 it0 lg44 it45 := kc_t hK40 hK47 (fun j hj => by first | omega | exact False.elim hj | (dsimp only at hj ⊢; omega))
          try have e51 : (it45 a1 0).toInt = (it42 a1 0).toInt := congrArg (fun f => Int32.toInt (f 0)) (hK47 a1 (by first | omega | (dsimp only; omega))).2
          have T52 : abF (fv lg44 it45 438) = L := by rw [fv_k hK47 (by first | omega | (dsimp only; omega))]; exact hL
          rw [(vw8_k ha1 hI hK40 (fun j a b => by first | omega | (dsimp only; omega))).1] at ha50
          generalize hX54 : abF (fv lg44 it45 439) = X53 at ha50
          refine ⟨fun c28 => ?_, fun c28 => ?_⟩
          · try simp only [Int32.lt_iff_toInt_lt, Int32.le_iff_toInt_le, ← Int32.toInt_inj, Int32.toInt_toInt64, ti_m14, ti_m13, ti_m12, ti_m11, ti_m10, ti_m9, ti_m6, ti_m5, ti_m4, ti_m3, ti_m2, ti_m1, ti_0, ti_1, ti_2, ti_3, ti_4, ti_5, ti_6, ti_7, ti_8, ti_9, ti_10, ti_11, ti_12, ti_19, ti_20, ti_21, ti_44, ti_45, ti_48, ti_57, ti_59, ti_60, ti_98, ti_99, ti_100, ti_101, ti_103, ti_108, ti_110, ti_114, ti_127] at c28
            have hc57 : it45 439 2 &&& 1 = it45 439 2 := ib (i8_1 hI46 (oq_439))
            refine ⟨hc57, ?_⟩
            intro lg55 em_lg55 it56 em_it56
            have hI58 : I8 lg55 it56 := by rw [em_it56]; exact i8_u hI46 (ok8_1 (oq_441) (fun _ => i8_1 hI46 (oq_439)))
            have hK59 : Kc (fun j => (438 ≤ j ∧ j < 442)) lg0 it0 lg55 it56 := by rw [em_lg55, em_it56]; exact kc_f (by first | omega | (dsimp only; omega)) hK48
            have T60 : abF (fv lg55 it56 441) = X53 := by rw [em_lg55, em_it56]; exact (congrArg abF fv_a3).trans hX54
            have T61 : abF (fv lg55 it56 438) = L := by rw [em_lg55, em_it56, fv_ne (by omega)]; exact T52
            have T62 : abF (fv lg55 it56 439) = X53 := by rw [em_lg55, em_it56, fv_ne (by omega)]; exact hX54
            try have e63 : (it56 a1 0).toInt = (it45 a1 0).toInt := by rw [em_it56]; exact congrArg Int32.toInt (congrFun (u2_row (by omega)) 0)
            refine ⟨fun c48 => ?_, fun c48 => ?_⟩
            · try simp only [Int32.lt_iff_toInt_lt, Int32.le_iff_toInt_le, ← Int32.toInt_inj, Int32.toInt_toInt64, ti_m14, ti_m13, ti_m12, ti_m11, ti_m10, ti_m9, ti_m6, ti_m5, ti_m4, ti_m3, ti_m2, ti_m1, ti_0, ti_1, ti_2, ti_3, ti_4, ti_5, ti_6, ti_7, ti_8, ti_9, ti_10, ti_11, ti_12, ti_19, ti_20, ti_21, ti_44, ti_45, ti_48, ti_57, ti_59, ti_60, ti_98, ti_99, ti_100, ti_101, ti_103, ti_108, ti_110, ti_114, ti_127] at c48
              unfold w_X5_find_b62
              refine ⟨fun c69 => ?_, fun c69 => ?_⟩
              · try simp only [Int32.lt_iff_toInt_lt, Int32.le_iff_toInt_le, ← Int32.toInt_inj, Int32.toInt_toInt64, ti_m14, ti_m13, ti_m12, ti_m11, ti_m10, ti_m9, ti_m6, ti_m5, ti_m4, ti_m3, ti_m2, ti_m1, ti_0, ti_1, ti_2, ti_3, ti_4, ti_5, ti_6, ti_7, ti_8, ti_9, ti_10, ti_11, ti_12, ti_19, ti_20, ti_21, ti_44, ti_45, ti_48, ti_57, ti_59, ti_60, ti_98, ti_99, ti_100, ti_101, ti_103, ti_108, ti_110, ti_114, ti_127] at c69
                refine ⟨fun c78 => ?_, fun c78 => ?_⟩
                · try simp only [Int32.lt_iff_toInt_lt, Int32.le_iff_toInt_le, ← Int32.toInt_inj, Int32.toInt_toInt64, ti_m14, ti_m13, ti_m12, ti_m11, ti_m10, ti_m9, ti_m6, ti_m5, ti_m4, ti_m3, ti_m2, ti_m1, ti_0, ti_1, ti_2, ti_3, ti_4, ti_5, ti_6, ti_7, ti_8, ti_9, ti_10, ti_11, ti_12, ti_19, ti_20, ti_21, ti_44, ti_45, ti_48, ti_57, ti_59, ti_60, ti_98, ti_99, ti_100, ti_101, ti_103, ti_108, ti_110, ti_114, ti_127] at c78
                  unfold w_X5_find_b93
                  have hc66 : it56 439 2 &&& 1 = it56 439 2 := ib (i8_1 hI58 (oq_439))
                  refine ⟨hc66, ?_⟩
                  intro lg64 em_lg64 it65 em_it65
                  have hI67 : I8 lg64 it65 := by rw [em_it65]; exact i8_u hI58 (ok8_1 (oq_438) (fun _ => i8_1 hI58 (oq_439)))
                  have hK68 : Kc (fun j => (438 ≤ j ∧ j < 442)) lg0 it0 lg64 it65 := by rw [em_lg64, em_it65]; exact kc_f (by first | omega | (dsimp only; omega)) hK59
                  have T69 : abF (fv lg64 it65 438) = X53 := by rw [em_lg64, em_it65]; exact (congrArg abF fv_a3).trans T62
                  have T70 : abF (fv lg64 it65 441) = X53 := by rw [em_lg64, em_it65, fv_ne (by omega)]; exact T60
                  have T71 : abF (fv lg64 it65 439) = X53 := by rw [em_lg64, em_it65, fv_ne (by omega)]; exact T62
                  try have e72 : (it65 a1 0).toInt = (it56 a1 0).toInt := by rw [em_it65]; exact congrArg Int32.toInt (congrFun (u2_row (by omega)) 0)
                  have e73 : (it65 441 2).toInt = (it56 441 2).toInt := by rw [em_it65]; exact congrArg Int32.toInt (congrFun (u2_row (by decide)) 2)
                  have f74 : 0 ≤ (it65 a1 0).toInt ∧ (it65 a1 0).toInt ≤ 6 := i8_3 hI67 (obr ha1)
                  refine ⟨fun c109 => ?_, fun c109 => ?_⟩
                  · try simp only [Int32.lt_iff_toInt_lt, Int32.le_iff_toInt_le, ← Int32.toInt_inj, Int32.toInt_toInt64, ti_m14, ti_m13, ti_m12, ti_m11, ti_m10, ti_m9, ti_m6, ti_m5, ti_m4, ti_m3, ti_m2, ti_m1, ti_0, ti_1, ti_2, ti_3, ti_4, ti_5, ti_6, ti_7, ti_8, ti_9, ti_10, ti_11, ti_12, ti_19, ti_20, ti_21, ti_44, ti_45, ti_48, ti_57, ti_59, ti_60, ti_98, ti_99, ti_100, ti_101, ti_103, ti_108, ti_110, ti_114, ti_127] at c109
                    try have f75 : ((x3 + 1) : Int32).toInt = (x3).toInt + 1 := ad32 (a := (x3).toInt) (b := 1) (rfl) (ti_1) (by omega) (by omega)
                    exact ih14 (x3) ((x3 + 1)) _ _ hI67 hK68 ⟨by omega, by omega, by rw [(cl_add1 (by omega) (by omega)), T69]; exact fnd_n1 hv14_2 c48 ((ha50.resolve_left (fun q => by have z := q.1; subst z; exact absurd c28 (by decide))).2) (tsm T60 c69) ((cl32 (by omega)).symm.trans (cw_i (by show ¬ x3.toNatClampNeg = (it0 a1 0).toNatClampNeg; have z := cl32 (i := x3) (by omega); have zn := cl32 (i := it0 a1 0) (by omega); omega)).symm)⟩ (by omega)
                  · try simp only [Int32.lt_iff_toInt_lt, Int32.le_iff_toInt_le, ← Int32.toInt_inj, Int32.toInt_toInt64, ti_m14, ti_m13, ti_m12, ti_m11, ti_m10, ti_m9, ti_m6, ti_m5, ti_m4, ti_m3, ti_m2, ti_m1, ti_0, ti_1, ti_2, ti_3, ti_4, ti_5, ti_6, ti_7, ti_8, ti_9, ti_10, ti_11, ti_12, ti_19, ti_20, ti_21, ti_44, ti_45, ti_48, ti_57, ti_59, ti_60, ti_98, ti_99, ti_100, ti_101, ti_103, ti_108, ti_110, ti_114, ti_127] at c109
                    try have f76 : ((x3 + 1) : Int32).toInt = (x3).toInt + 1 := ad32 (a := (x3).toInt) (b := 1) (rfl) (ti_1) (by omega) (by omega)
                    exact ih14 ((9 : Int32)) ((x3 + 1)) _ _ hI67 hK68 ⟨by omega, by omega, by rw [(cl_add1 (by omega) (by omega)), T69]; exact fnd_n1 hv14_2 c48 ((ha50.resolve_left (fun q => by have z := q.1; subst z; exact absurd c28 (by decide))).2) (tsm T60 c69) (ti_9.trans (cw_n (by show x3.toNatClampNeg = (it0 a1 0).toNatClampNeg; have z := cl32 (i := x3) (by omega); have zn := cl32 (i := it0 a1 0) (by omega); omega)).symm)⟩ (by omega)
                · try simp only [Int32.lt_iff_toInt_lt, Int32.le_iff_toInt_le, ← Int32.toInt_inj, Int32.toInt_toInt64, ti_m14, ti_m13, ti_m12, ti_m11, ti_m10, ti_m9, ti_m6, ti_m5, ti_m4, ti_m3, ti_m2, ti_m1, ti_0, ti_1, ti_2, ti_3, ti_4, ti_5, ti_6, ti_7, ti_8, ti_9, ti_10, ti_11, ti_12, ti_19, ti_20, ti_21, ti_44, ti_45, ti_48, ti_57, ti_59, ti_60, ti_98, ti_99, ti_100, ti_101, ti_103, ti_108, ti_110, ti_114, ti_127] at c78
                  exact absurd c48 c78
              · try simp only [Int32.lt_iff_toInt_lt, Int32.le_iff_toInt_le, ← Int32.toInt_inj, Int32.toInt_toInt64, ti_m14, ti_m13, ti_m12, ti_m11, ti_m10, ti_m9, ti_m6, ti_m5, ti_m4, ti_m3, ti_m2, ti_m1, ti_0, ti_1, ti_2, ti_3, ti_4, ti_5, ti_6, ti_7, ti_8, ti_9, ti_10, ti_11, ti_12, ti_19, ti_20, ti_21, ti_44, ti_45, ti_48, ti_57, ti_59, ti_60, ti_98, ti_99, ti_100, ti_101, ti_103, ti_108, ti_110, ti_114, ti_127] at c69
                subst hp
                exact ⟨⟨hI58, hK59⟩, Or.inr (Or.inl ⟨ti_m6, nx_n (fnd_o1 hv14_2 ((ha50.resolve_left (fun q => by have z := q.1; subst z; exact absurd c28 (by decide))).2) (tno T60 c69)) (by have z := cl32 (i := x3) (by omega); have zn := cl32 (i := it0 a1 0) (by omega); show x3.toNatClampNeg + 1 ≤ (it0 a1 0).toNatClampNeg + 1; omega) (by have zn := cl32 (i := it0 a1 0) (by omega); show ¬ (it0 a1 0).toNatClampNeg = 0; omega)⟩)⟩
            · try simp only [Int32.lt_iff_toInt_lt, Int32.le_iff_toInt_le, ← Int32.toInt_inj, Int32.toInt_toInt64, ti_m14, ti_m13, ti_m12, ti_m11, ti_m10, ti_m9, ti_m6, ti_m5, ti_m4, ti_m3, ti_m2, ti_m1, ti_0, ti_1, ti_2, ti_3, ti_4, ti_5, ti_6, ti_7, ti_8, ti_9, ti_10, ti_11, ti_12, ti_19, ti_20, ti_21, ti_44, ti_45, ti_48, ti_57, ti_59, ti_60, ti_98, ti_99, ti_100, ti_101, ti_103, ti_108, ti_110, ti_114, ti_127] at c48
              intro q77 em_q77 lg78 em_lg78 it79 em_it79
              have hI80 : I8 lg78 it79 := by rw [em_it79]; exact i8_u hI58 (ok8_1 (oq_441) (fun _ => by rw [em_q77]; exact stF_01 _ _ _ _ _))
              have hK81 : Kc (fun j => (438 ≤ j ∧ j < 442)) lg0 it0 lg78 it79 := by rw [em_lg78, em_it79]; exact kc_f (by first | omega | (dsimp only; omega)) hK59
              have T82 : abF (fv lg78 it79 441) = (oL X53 L) := by rw [em_lg78, em_it79, fv_at, em_q77, ab_l, T60, T61]
              have T83 : abF (fv lg78 it79 438) = L := by rw [em_lg78, em_it79, fv_ne (by omega)]; exact T61
              have T84 : abF (fv lg78 it79 439) = X53 := by rw [em_lg78, em_it79, fv_ne (by omega)]; exact T62
              try have e85 : (it79 a1 0).toInt = (it56 a1 0).toInt := by rw [em_it79]; exact congrArg Int32.toInt (congrFun (u2_row (by omega)) 0)
              unfold w_X5_find_b62
              refine ⟨fun c69 => ?_, fun c69 => ?_⟩
              · try simp only [Int32.lt_iff_toInt_lt, Int32.le_iff_toInt_le, ← Int32.toInt_inj, Int32.toInt_toInt64, ti_m14, ti_m13, ti_m12, ti_m11, ti_m10, ti_m9, ti_m6, ti_m5, ti_m4, ti_m3, ti_m2, ti_m1, ti_0, ti_1, ti_2, ti_3, ti_4, ti_5, ti_6, ti_7, ti_8, ti_9, ti_10, ti_11, ti_12, ti_19, ti_20, ti_21, ti_44, ti_45, ti_48, ti_57, ti_59, ti_60, ti_98, ti_99, ti_100, ti_101, ti_103, ti_108, ti_110, ti_114, ti_127] at c69
                refine ⟨fun c78 => ?_, fun c78 => ?_⟩
                · try simp only [Int32.lt_iff_toInt_lt, Int32.le_iff_toInt_le, ← Int32.toInt_inj, Int32.toInt_toInt64, ti_m14, ti_m13, ti_m12, ti_m11, ti_m10, ti_m9, ti_m6, ti_m5, ti_m4, ti_m3, ti_m2, ti_m1, ti_0, ti_1, ti_2, ti_3, ti_4, ti_5, ti_6, ti_7, ti_8, ti_9, ti_10, ti_11, ti_12, ti_19, ti_20, ti_21, ti_44, ti_45, ti_48, ti_57, ti_59, ti_60, ti_98, ti_99, ti_100, ti_101, ti_103, ti_108, ti_110, ti_114, ti_127] at c78
                  exact absurd c78 c48
                · try simp only [Int32.lt_iff_toInt_lt, Int32.le_iff_toInt_le, ← Int32.toInt_inj, Int32.toInt_toInt64, ti_m14, ti_m13, ti_m12, ti_m11, ti_m10, ti_m9, ti_m6, ti_m5, ti_m4, ti_m3, ti_m2, ti_m1, ti_0, ti_1, ti_2, ti_3, ti_4, ti_5, ti_6, ti_7, ti_8, ti_9, ti_10, ti_11, ti_12, ti_19, ti_20, ti_21, ti_44, ti_45, ti_48, ti_57, ti_59, ti_60, ti_98, ti_99, ti_100, ti_101, ti_103, ti_108, ti_110, ti_114, ti_127] at c78
                  refine ⟨fun c90 => ?_, fun c90 => ?_⟩
                  · try simp only [Int32.lt_iff_toInt_lt, Int32.le_iff_toInt_le, ← Int32.toInt_inj, Int32.toInt_toInt64, ti_m14, ti_m13, ti_m12, ti_m11, ti_m10, ti_m9, ti_m6, ti_m5, ti_m4, ti_m3, ti_m2, ti_m1, ti_0, ti_1, ti_2, ti_3, ti_4, ti_5, ti_6, ti_7, ti_8, ti_9, ti_10, ti_11, ti_12, ti_19, ti_20, ti_21, ti_44, ti_45, ti_48, ti_57, ti_59, ti_60, ti_98, ti_99, ti_100, ti_101, ti_103, ti_108, ti_110, ti_114, ti_127] at c90
                    try have f86 : ((x3 + 1) : Int32).toInt = (x3).toInt + 1 := ad32 (a := (x3).toInt) (b := 1) (rfl) (ti_1) (by omega) (by omega)
                    exact ih14 (x2) ((x3 + 1)) _ _ hI80 hK81 ⟨by omega, by omega, by rw [(cl_add1 (by omega) (by omega)), T83]; exact fnd_k hv14_2 c78 ((ha50.resolve_left (fun q => by have z := q.1; subst z; exact absurd c28 (by decide))).2) (tsm T82 c69) c90⟩ (by omega)
                  · try simp only [Int32.lt_iff_toInt_lt, Int32.le_iff_toInt_le, ← Int32.toInt_inj, Int32.toInt_toInt64, ti_m14, ti_m13, ti_m12, ti_m11, ti_m10, ti_m9, ti_m6, ti_m5, ti_m4, ti_m3, ti_m2, ti_m1, ti_0, ti_1, ti_2, ti_3, ti_4, ti_5, ti_6, ti_7, ti_8, ti_9, ti_10, ti_11, ti_12, ti_19, ti_20, ti_21, ti_44, ti_45, ti_48, ti_57, ti_59, ti_60, ti_98, ti_99, ti_100, ti_101, ti_103, ti_108, ti_110, ti_114, ti_127] at c90
                    unfold w_X5_find_b93
                    have hc89 : it79 439 2 &&& 1 = it79 439 2 := ib (i8_1 hI80 (oq_439))
                    refine ⟨hc89, ?_⟩
                    intro lg87 em_lg87 it88 em_it88
                    have hI90 : I8 lg87 it88 := by rw [em_it88]; exact i8_u hI80 (ok8_1 (oq_438) (fun _ => i8_1 hI80 (oq_439)))
                    have hK91 : Kc (fun j => (438 ≤ j ∧ j < 442)) lg0 it0 lg87 it88 := by rw [em_lg87, em_it88]; exact kc_f (by first | omega | (dsimp only; omega)) hK81
                    have T92 : abF (fv lg87 it88 438) = X53 := by rw [em_lg87, em_it88]; exact (congrArg abF fv_a3).trans T84
                    have T93 : abF (fv lg87 it88 441) = (oL X53 L) := by rw [em_lg87, em_it88, fv_ne (by omega)]; exact T82
                    have T94 : abF (fv lg87 it88 439) = X53 := by rw [em_lg87, em_it88, fv_ne (by omega)]; exact T84
                    try have e95 : (it88 a1 0).toInt = (it79 a1 0).toInt := by rw [em_it88]; exact congrArg Int32.toInt (congrFun (u2_row (by omega)) 0)
                    have e96 : (it88 441 2).toInt = (it79 441 2).toInt := by rw [em_it88]; exact congrArg Int32.toInt (congrFun (u2_row (by decide)) 2)
                    have f97 : 0 ≤ (it88 a1 0).toInt ∧ (it88 a1 0).toInt ≤ 6 := i8_3 hI90 (obr ha1)
                    refine ⟨fun c109 => ?_, fun c109 => ?_⟩
                    · try simp only [Int32.lt_iff_toInt_lt, Int32.le_iff_toInt_le, ← Int32.toInt_inj, Int32.toInt_toInt64, ti_m14, ti_m13, ti_m12, ti_m11, ti_m10, ti_m9, ti_m6, ti_m5, ti_m4, ti_m3, ti_m2, ti_m1, ti_0, ti_1, ti_2, ti_3, ti_4, ti_5, ti_6, ti_7, ti_8, ti_9, ti_10, ti_11, ti_12, ti_19, ti_20, ti_21, ti_44, ti_45, ti_48, ti_57, ti_59, ti_60, ti_98, ti_99, ti_100, ti_101, ti_103, ti_108, ti_110, ti_114, ti_127] at c109
                      try have f98 : ((x3 + 1) : Int32).toInt = (x3).toInt + 1 := ad32 (a := (x3).toInt) (b := 1) (rfl) (ti_1) (by omega) (by omega)
                      exact ih14 (x3) ((x3 + 1)) _ _ hI90 hK91 ⟨by omega, by omega, by rw [(cl_add1 (by omega) (by omega)), T92]; exact fnd_n2 hv14_2 c78 ((ha50.resolve_left (fun q => by have z := q.1; subst z; exact absurd c28 (by decide))).2) (tsm T82 c69) c90 ((cl32 (by omega)).symm.trans (cw_i (by show ¬ x3.toNatClampNeg = (it0 a1 0).toNatClampNeg; have z := cl32 (i := x3) (by omega); have zn := cl32 (i := it0 a1 0) (by omega); omega)).symm)⟩ (by omega)
                    · try simp only [Int32.lt_iff_toInt_lt, Int32.le_iff_toInt_le, ← Int32.toInt_inj, Int32.toInt_toInt64, ti_m14, ti_m13, ti_m12, ti_m11, ti_m10, ti_m9, ti_m6, ti_m5, ti_m4, ti_m3, ti_m2, ti_m1, ti_0, ti_1, ti_2, ti_3, ti_4, ti_5, ti_6, ti_7, ti_8, ti_9, ti_10, ti_11, ti_12, ti_19, ti_20, ti_21, ti_44, ti_45, ti_48, ti_57, ti_59, ti_60, ti_98, ti_99, ti_100, ti_101, ti_103, ti_108, ti_110, ti_114, ti_127] at c109
                      try have f99 : ((x3 + 1) : Int32).toInt = (x3).toInt + 1 := ad32 (a := (x3).toInt) (b := 1) (rfl) (ti_1) (by omega) (by omega)
                      exact ih14 ((9 : Int32)) ((x3 + 1)) _ _ hI90 hK91 ⟨by omega, by omega, by rw [(cl_add1 (by omega) (by omega)), T92]; exact fnd_n2 hv14_2 c78 ((ha50.resolve_left (fun q => by have z := q.1; subst z; exact absurd c28 (by decide))).2) (tsm T82 c69) c90 (ti_9.trans (cw_n (by show x3.toNatClampNeg = (it0 a1 0).toNatClampNeg; have z := cl32 (i := x3) (by omega); have zn := cl32 (i := it0 a1 0) (by omega); omega)).symm)⟩ (by omega)
              · try simp only [Int32.lt_iff_toInt_lt, Int32.le_iff_toInt_le, ← Int32.toInt_inj, Int32.toInt_toInt64, ti_m14, ti_m13, ti_m12, ti_m11, ti_m10, ti_m9, ti_m6, ti_m5, ti_m4, ti_m3, ti_m2, ti_m1, ti_0, ti_1, ti_2, ti_3, ti_4, ti_5, ti_6, ti_7, ti_8, ti_9, ti_10, ti_11, ti_12, ti_19, ti_20, ti_21, ti_44, ti_45, ti_48, ti_57, ti_59, ti_60, ti_98, ti_99, ti_100, ti_101, ti_103, ti_108, ti_110, ti_114, ti_127] at c69
                subst hp
                exact ⟨⟨hI80, hK81⟩, Or.inr (Or.inl ⟨ti_m6, nx_n (fnd_o2 hv14_2 c48 ((ha50.resolve_left (fun q => by have z := q.1; subst z; exact absurd c28 (by decide))).2) (tno T82 c69)) (by have z := cl32 (i := x3) (by omega); have zn := cl32 (i := it0 a1 0) (by omega); show x3.toNatClampNeg + 1 ≤ (it0 a1 0).toNatClampNeg + 1; omega) (by have zn := cl32 (i := it0 a1 0) (by omega); show ¬ (it0 a1 0).toNatClampNeg = 0; omega)⟩)⟩
          · try simp only [Int32.lt_iff_toInt_lt, Int32.le_iff_toInt_le, ← Int32.toInt_inj, Int32.toInt_toInt64, ti_m14, ti_m13, ti_m12, ti_m11, ti_m10, ti_m9, ti_m6, ti_m5, ti_m4, ti_m3, ti_m2, ti_m1, ti_0, ti_1, ti_2, ti_3, ti_4, ti_5, ti_6, ti_7, ti_8, ti_9, ti_10, ti_11, ti_12, ti_19, ti_20, ti_21, ti_44, ti_45, ti_48, ti_57, ti_59, ti_60, ti_98, ti_99, ti_100, ti_101, ti_103, ti_108, ti_110, ti_114, ti_127] at c28
            try have f100 : ((x3 + 1) : Int32).toInt = (x3).toInt + 1 := ad32 (a := (x3).toInt) (b := 1) (rfl) (ti_1) (by omega) (by omega)
            exact ih14 (x2) ((x3 + 1)) _ _ hI46 hK48 ⟨by omega, by omega, by rw [(cl_add1 (by omega) (by omega)), T52]; exact fnd_0 hv14_2 ((ha50.resolve_right (fun q => by have z := q.1; subst z; exact absurd c28 (by decide))).2)⟩ (by omega)
    have t101 := ti_m5
    have t102 := ti_0
    exact ⟨_, lp14 ((8 - ((0 : Int32)).toInt).toNat + 1) (((-5) : Int32)) ((0 : Int32)) _ _ hI hKr ⟨by omega, by omega, fnd_i ti_m5⟩ (Nat.lt_succ_self _)⟩
  · try simp only [Int32.lt_iff_toInt_lt, Int32.le_iff_toInt_le, ← Int32.toInt_inj, Int32.toInt_toInt64, ti_m14, ti_m13, ti_m12, ti_m11, ti_m10, ti_m9, ti_m6, ti_m5, ti_m4, ti_m3, ti_m2, ti_m1, ti_0, ti_1, ti_2, ti_3, ti_4, ti_5, ti_6, ti_7, ti_8, ti_9, ti_10, ti_11, ti_12, ti_19, ti_20, ti_21, ti_44, ti_45, ti_48, ti_57, ti_59, ti_60, ti_98, ti_99, ti_100, ti_101, ti_103, ti_108, ti_110, ti_114, ti_127] at c7
    subst hp
    exact ⟨⟨hI, hKr⟩, Or.inl ⟨ti_m5, nx_0 (cl_e0 c7)⟩⟩
set_option maxRecDepth 100000 in
theorem f_X5_rebound {a1 : Nat} (ha1 : Ob NT a1 1) (a2 : Int32) {lg0 : LGt} {it0 : ITt} (hI : I8 lg0 it0) (s : QQ) (hs : abF (fv lg0 it0 a1) = some s) (hq : 0 ≤ a2.toInt ∧ a2.toInt ≤ 4) (hfa : a1 < 437 ∨ 450 ≤ a1) : w_X5_rebound a1 a2 (fun (v : Int32) (lg' : LGt) (it' : ITt) => (I8 lg' it' ∧ Kc (fun j => (442 ≤ j ∧ j < 444) ∨ (a1 ≤ j ∧ j < a1 + 1)) lg0 it0 lg' it') ∧ (abF (fv lg' it' a1) = tnS s a2 ∧ ((v = 1 ∧ (tnS s a2).isSome = true) ∨ (v = 0 ∧ tnS s a2 = none))))  lg0 it0 := by
  have hb_a2 := And.intro a2.le_toInt a2.toInt_lt
  have hKr : Kc (fun j => (442 ≤ j ∧ j < 444) ∨ (a1 ≤ j ∧ j < a1 + 1)) lg0 it0 lg0 it0 := kc_r
  generalize hp : (fun (v : Int32) (lg' : LGt) (it' : ITt) => (I8 lg' it' ∧ Kc (fun j => (442 ≤ j ∧ j < 444) ∨ (a1 ≤ j ∧ j < a1 + 1)) lg0 it0 lg' it') ∧ (abF (fv lg' it' a1) = tnS s a2 ∧ ((v = 1 ∧ (tnS s a2).isSome = true) ∨ (v = 0 ∧ tnS s a2 = none)))) = Pz
  unfold w_X5_rebound
  intro q23 em_q23 lg24 em_lg24 it25 em_it25
  have hI26 : I8 lg24 it25 := by rw [em_it25]; exact i8_u hI (ok8_1 (oq_443) (fun _ => by rw [em_q23]; exact stF_01 _ _ _ _ _))
  have hK27 : Kc (fun j => (442 ≤ j ∧ j < 444) ∨ (a1 ≤ j ∧ j < a1 + 1)) lg0 it0 lg24 it25 := by rw [em_lg24, em_it25]; exact kc_f (by first | omega | (dsimp only; omega)) hKr
  have T28 : abF (fv lg24 it25 443) = (qF a2) := by rw [em_lg24, em_it25, fv_at, em_q23]; exact rat4 hq
  have T29 : abF (fv lg24 it25 a1) = (some s) := by rw [em_lg24, em_it25, fv_ne (by omega)]; exact hs
  have hc32 : it25 a1 2 &&& 1 = it25 a1 2 := ib (i8_1 hI26 (ha1))
  refine ⟨hc32, ?_⟩
  intro lg30 em_lg30 it31 em_it31
  have hI33 : I8 lg30 it31 := by rw [em_it31]; exact i8_u hI26 (ok8_1 (oq_442) (fun _ => i8_1 hI26 (ha1)))
  have hK34 : Kc (fun j => (442 ≤ j ∧ j < 444) ∨ (a1 ≤ j ∧ j < a1 + 1)) lg0 it0 lg30 it31 := by rw [em_lg30, em_it31]; exact kc_f (by first | omega | (dsimp only; omega)) hK27
  have T35 : abF (fv lg30 it31 442) = (some s) := by rw [em_lg30, em_it31]; exact (congrArg abF fv_a3).trans T29
  have T36 : abF (fv lg30 it31 443) = (qF a2) := by rw [em_lg30, em_it31, fv_ne (by omega)]; exact T28
  have T37 : abF (fv lg30 it31 a1) = (some s) := by rw [em_lg30, em_it31, fv_ne (by omega)]; exact T29
  intro q38 em_q38 lg39 em_lg39 it40 em_it40
  have hI41 : I8 lg39 it40 := by rw [em_it40]; exact i8_u hI33 (ok8_1 (oq_442) (fun _ => by rw [em_q38]; exact stF_01 _ _ _ _ _))
  have hK42 : Kc (fun j => (442 ≤ j ∧ j < 444) ∨ (a1 ≤ j ∧ j < a1 + 1)) lg0 it0 lg39 it40 := by rw [em_lg39, em_it40]; exact kc_f (by first | omega | (dsimp only; omega)) hK34
  have T43 : abF (fv lg39 it40 442) = (oT (some s) (qF a2)) := by rw [em_lg39, em_it40, fv_at, em_q38, ab_t, T35, T36]
  have T44 : abF (fv lg39 it40 443) = (qF a2) := by rw [em_lg39, em_it40, fv_ne (by omega)]; exact T36
  have T45 : abF (fv lg39 it40 a1) = (some s) := by rw [em_lg39, em_it40, fv_ne (by omega)]; exact T37
  intro lg46 em_lg46 it47 em_it47
  have hI48 : I8 lg46 it47 := by rw [em_it47]; exact i8_u hI41 (ok8_1 (ha1) (fun _ => Or.inl rfl))
  have hK49 : Kc (fun j => (442 ≤ j ∧ j < 444) ∨ (a1 ≤ j ∧ j < a1 + 1)) lg0 it0 lg46 it47 := by rw [em_lg46, em_it47]; exact kc_f (by first | omega | (dsimp only; omega)) hK42
  have T50 : abF (fv lg46 it47 a1) = (some ((0 : Int64), 1)) := by rw [em_lg46, em_it47]; exact (congrArg abF fv_a3).trans (abF_0 rfl)
  have T51 : abF (fv lg46 it47 442) = (oT (some s) (qF a2)) := by rw [em_lg46, em_it47, fv_ne (by omega)]; exact T43
  have T52 : abF (fv lg46 it47 443) = (qF a2) := by rw [em_lg46, em_it47, fv_ne (by omega)]; exact T44
  intro q53 em_q53 lg54 em_lg54 it55 em_it55
  have hI56 : I8 lg54 it55 := by rw [em_it55]; exact i8_u hI48 (ok8_1 (ha1) (fun _ => by rw [em_q53]; exact stF_01 _ _ _ _ _))
  have hK57 : Kc (fun j => (442 ≤ j ∧ j < 444) ∨ (a1 ≤ j ∧ j < a1 + 1)) lg0 it0 lg54 it55 := by rw [em_lg54, em_it55]; exact kc_f (by first | omega | (dsimp only; omega)) hK49
  have T58 : abF (fv lg54 it55 a1) = (oL (some ((0 : Int64), 1)) (oT (some s) (qF a2))) := by rw [em_lg54, em_it55, fv_at, em_q53, ab_l, T50, T51]
  have T59 : abF (fv lg54 it55 442) = (oT (some s) (qF a2)) := by rw [em_lg54, em_it55, fv_ne (by omega)]; exact T51
  have T60 : abF (fv lg54 it55 443) = (qF a2) := by rw [em_lg54, em_it55, fv_ne (by omega)]; exact T52
  refine ⟨fun c48 => ?_, fun c48 => ?_⟩
  · try simp only [Int32.lt_iff_toInt_lt, Int32.le_iff_toInt_le, ← Int32.toInt_inj, Int32.toInt_toInt64, ti_m14, ti_m13, ti_m12, ti_m11, ti_m10, ti_m9, ti_m6, ti_m5, ti_m4, ti_m3, ti_m2, ti_m1, ti_0, ti_1, ti_2, ti_3, ti_4, ti_5, ti_6, ti_7, ti_8, ti_9, ti_10, ti_11, ti_12, ti_19, ti_20, ti_21, ti_44, ti_45, ti_48, ti_57, ti_59, ti_60, ti_98, ti_99, ti_100, ti_101, ti_103, ti_108, ti_110, ti_114, ti_127] at c48
    subst hp
    exact ⟨⟨hI56, hK57⟩, ⟨T58, Or.inr ⟨rfl, tno T58 c48⟩⟩⟩
  · try simp only [Int32.lt_iff_toInt_lt, Int32.le_iff_toInt_le, ← Int32.toInt_inj, Int32.toInt_toInt64, ti_m14, ti_m13, ti_m12, ti_m11, ti_m10, ti_m9, ti_m6, ti_m5, ti_m4, ti_m3, ti_m2, ti_m1, ti_0, ti_1, ti_2, ti_3, ti_4, ti_5, ti_6, ti_7, ti_8, ti_9, ti_10, ti_11, ti_12, ti_19, ti_20, ti_21, ti_44, ti_45, ti_48, ti_57, ti_59, ti_60, ti_98, ti_99, ti_100, ti_101, ti_103, ti_108, ti_110, ti_114, ti_127] at c48
    subst hp
    exact ⟨⟨hI56, hK57⟩, ⟨T58, Or.inl ⟨rfl, by rw [show tnS s a2 = _ from tsm T58 c48]; rfl⟩⟩⟩
set_option maxRecDepth 100000 in
theorem f_X5_collide {a1 : Nat} (ha1 : a1 ∈ rb) (a2 : Int32) (a3 : Int32) {lg0 : LGt} {it0 : ITt} (hI : I8 lg0 it0) (hl : 0 ≤ a2.toInt ∧ a2.toInt ≤ 5) (hr : 0 ≤ a3.toInt ∧ a3.toInt ≤ 5) (hlr : ¬ a2.toInt = a3.toInt) (s : QQ) (t : QQ) (hs : abF (fv lg0 it0 (a1 + 5 + 2 * a2.toNatClampNeg)) = some s) (ht : abF (fv lg0 it0 (a1 + 5 + 2 * a3.toNatClampNeg)) = some t) (he : 0 ≤ (it0 a1 4).toInt ∧ (it0 a1 4).toInt ≤ 4) : w_X5_collide a1 a2 a3 (fun (v : Int32) (lg' : LGt) (it' : ITt) => (I8 lg' it' ∧ Kc (fun j => (443 ≤ j ∧ j < 450) ∨ (a1 + 5 + 2 * a2.toNatClampNeg ≤ j ∧ j < a1 + 6 + 2 * a2.toNatClampNeg) ∨ (a1 + 5 + 2 * a3.toNatClampNeg ≤ j ∧ j < a1 + 6 + 2 * a3.toNatClampNeg)) lg0 it0 lg' it') ∧ (abF (fv lg' it' (a1 + 5 + 2 * a2.toNatClampNeg)) = pL1 s t (it0 (a1 + 1) a2.toNatClampNeg) (it0 (a1 + 1) a3.toNatClampNeg) (it0 a1 4) ∧ abF (fv lg' it' (a1 + 5 + 2 * a3.toNatClampNeg)) = pL2 s t (it0 (a1 + 1) a2.toNatClampNeg) (it0 (a1 + 1) a3.toNatClampNeg) (it0 a1 4) ∧ ((v = 1 ∧ (pL1 s t (it0 (a1 + 1) a2.toNatClampNeg) (it0 (a1 + 1) a3.toNatClampNeg) (it0 a1 4)).isSome = true ∧ (pL2 s t (it0 (a1 + 1) a2.toNatClampNeg) (it0 (a1 + 1) a3.toNatClampNeg) (it0 a1 4)).isSome = true) ∨ (v = 0 ∧ (pL1 s t (it0 (a1 + 1) a2.toNatClampNeg) (it0 (a1 + 1) a3.toNatClampNeg) (it0 a1 4) = none ∨ pL2 s t (it0 (a1 + 1) a2.toNatClampNeg) (it0 (a1 + 1) a3.toNatClampNeg) (it0 a1 4) = none)))))  lg0 it0 := by
  have hb_a2 := And.intro a2.le_toInt a2.toInt_lt
  have hb_a3 := And.intro a3.le_toInt a3.toInt_lt
  have hKr : Kc (fun j => (443 ≤ j ∧ j < 450) ∨ (a1 + 5 + 2 * a2.toNatClampNeg ≤ j ∧ j < a1 + 6 + 2 * a2.toNatClampNeg) ∨ (a1 + 5 + 2 * a3.toNatClampNeg ≤ j ∧ j < a1 + 6 + 2 * a3.toNatClampNeg)) lg0 it0 lg0 it0 := kc_r
  generalize hp : (fun (v : Int32) (lg' : LGt) (it' : ITt) => (I8 lg' it' ∧ Kc (fun j => (443 ≤ j ∧ j < 450) ∨ (a1 + 5 + 2 * a2.toNatClampNeg ≤ j ∧ j < a1 + 6 + 2 * a2.toNatClampNeg) ∨ (a1 + 5 + 2 * a3.toNatClampNeg ≤ j ∧ j < a1 + 6 + 2 * a3.toNatClampNeg)) lg0 it0 lg' it') ∧ (abF (fv lg' it' (a1 + 5 + 2 * a2.toNatClampNeg)) = pL1 s t (it0 (a1 + 1) a2.toNatClampNeg) (it0 (a1 + 1) a3.toNatClampNeg) (it0 a1 4) ∧ abF (fv lg' it' (a1 + 5 + 2 * a3.toNatClampNeg)) = pL2 s t (it0 (a1 + 1) a2.toNatClampNeg) (it0 (a1 + 1) a3.toNatClampNeg) (it0 a1 4) ∧ ((v = 1 ∧ (pL1 s t (it0 (a1 + 1) a2.toNatClampNeg) (it0 (a1 + 1) a3.toNatClampNeg) (it0 a1 4)).isSome = true ∧ (pL2 s t (it0 (a1 + 1) a2.toNatClampNeg) (it0 (a1 + 1) a3.toNatClampNeg) (it0 a1 4)).isSome = true) ∨ (v = 0 ∧ (pL1 s t (it0 (a1 + 1) a2.toNatClampNeg) (it0 (a1 + 1) a3.toNatClampNeg) (it0 a1 4) = none ∨ pL2 s t (it0 (a1 + 1) a2.toNatClampNeg) (it0 (a1 + 1) a3.toNatClampNeg) (it0 a1 4) = none))))) = Pz
  unfold w_X5_collide
  have hfar := rb_far ha1
  have hk2 := cl32 hl.1
  have hk3 := cl32 hr.1
  have hi113 : vp_in a2 6 := vp_of (by first | omega | ((try simp only [Int32.lt_iff_toInt_lt, Int32.le_iff_toInt_le, ← Int32.toInt_inj, Int32.toInt_toInt64, ti_m14, ti_m13, ti_m12, ti_m11, ti_m10, ti_m9, ti_m6, ti_m5, ti_m4, ti_m3, ti_m2, ti_m1, ti_0, ti_1, ti_2, ti_3, ti_4, ti_5, ti_6, ti_7, ti_8, ti_9, ti_10, ti_11, ti_12, ti_19, ti_20, ti_21, ti_44, ti_45, ti_48, ti_57, ti_59, ti_60, ti_98, ti_99, ti_100, ti_101, ti_103, ti_108, ti_110, ti_114, ti_127]); omega) | (split <;> omega)) (by first | omega | ((try simp only [Int32.lt_iff_toInt_lt, Int32.le_iff_toInt_le, ← Int32.toInt_inj, Int32.toInt_toInt64, ti_m14, ti_m13, ti_m12, ti_m11, ti_m10, ti_m9, ti_m6, ti_m5, ti_m4, ti_m3, ti_m2, ti_m1, ti_0, ti_1, ti_2, ti_3, ti_4, ti_5, ti_6, ti_7, ti_8, ti_9, ti_10, ti_11, ti_12, ti_19, ti_20, ti_21, ti_44, ti_45, ti_48, ti_57, ti_59, ti_60, ti_98, ti_99, ti_100, ti_101, ti_103, ti_108, ti_110, ti_114, ti_127]); omega) | (split <;> omega))
  refine ⟨hi113, ?_⟩
  have hz114 := vlt hi113
  have hi115 : vp_in a3 6 := vp_of (by first | omega | ((try simp only [Int32.lt_iff_toInt_lt, Int32.le_iff_toInt_le, ← Int32.toInt_inj, Int32.toInt_toInt64, ti_m14, ti_m13, ti_m12, ti_m11, ti_m10, ti_m9, ti_m6, ti_m5, ti_m4, ti_m3, ti_m2, ti_m1, ti_0, ti_1, ti_2, ti_3, ti_4, ti_5, ti_6, ti_7, ti_8, ti_9, ti_10, ti_11, ti_12, ti_19, ti_20, ti_21, ti_44, ti_45, ti_48, ti_57, ti_59, ti_60, ti_98, ti_99, ti_100, ti_101, ti_103, ti_108, ti_110, ti_114, ti_127]); omega) | (split <;> omega)) (by first | omega | ((try simp only [Int32.lt_iff_toInt_lt, Int32.le_iff_toInt_le, ← Int32.toInt_inj, Int32.toInt_toInt64, ti_m14, ti_m13, ti_m12, ti_m11, ti_m10, ti_m9, ti_m6, ti_m5, ti_m4, ti_m3, ti_m2, ti_m1, ti_0, ti_1, ti_2, ti_3, ti_4, ti_5, ti_6, ti_7, ti_8, ti_9, ti_10, ti_11, ti_12, ti_19, ti_20, ti_21, ti_44, ti_45, ti_48, ti_57, ti_59, ti_60, ti_98, ti_99, ti_100, ti_101, ti_103, ti_108, ti_110, ti_114, ti_127]); omega) | (split <;> omega))
  refine ⟨hi115, ?_⟩
  have hz116 := vlt hi115
  have hi117 : vp_in a2 6 := vp_of (by first | omega | ((try simp only [Int32.lt_iff_toInt_lt, Int32.le_iff_toInt_le, ← Int32.toInt_inj, Int32.toInt_toInt64, ti_m14, ti_m13, ti_m12, ti_m11, ti_m10, ti_m9, ti_m6, ti_m5, ti_m4, ti_m3, ti_m2, ti_m1, ti_0, ti_1, ti_2, ti_3, ti_4, ti_5, ti_6, ti_7, ti_8, ti_9, ti_10, ti_11, ti_12, ti_19, ti_20, ti_21, ti_44, ti_45, ti_48, ti_57, ti_59, ti_60, ti_98, ti_99, ti_100, ti_101, ti_103, ti_108, ti_110, ti_114, ti_127]); omega) | (split <;> omega)) (by first | omega | ((try simp only [Int32.lt_iff_toInt_lt, Int32.le_iff_toInt_le, ← Int32.toInt_inj, Int32.toInt_toInt64, ti_m14, ti_m13, ti_m12, ti_m11, ti_m10, ti_m9, ti_m6, ti_m5, ti_m4, ti_m3, ti_m2, ti_m1, ti_0, ti_1, ti_2, ti_3, ti_4, ti_5, ti_6, ti_7, ti_8, ti_9, ti_10, ti_11, ti_12, ti_19, ti_20, ti_21, ti_44, ti_45, ti_48, ti_57, ti_59, ti_60, ti_98, ti_99, ti_100, ti_101, ti_103, ti_108, ti_110, ti_114, ti_127]); omega) | (split <;> omega))
  refine ⟨hi117, ?_⟩
  have hz118 := vlt hi117
  intro lg119 em_lg119 it120 em_it120
  have hI121 : I8 lg119 it120 := by rw [em_it120]; exact i8_u hI (ok8_1 (oq_447) (fun _ => Or.inl rfl))
  have hK122 : Kc (fun j => (443 ≤ j ∧ j < 450) ∨ (a1 + 5 + 2 * a2.toNatClampNeg ≤ j ∧ j < a1 + 6 + 2 * a2.toNatClampNeg) ∨ (a1 + 5 + 2 * a3.toNatClampNeg ≤ j ∧ j < a1 + 6 + 2 * a3.toNatClampNeg)) lg0 it0 lg119 it120 := by rw [em_lg119, em_it120]; exact kc_f (by first | omega | (dsimp only; omega)) hKr
  have T123 : abF (fv lg119 it120 447) = (mF (it0 (a1 + 1) a2.toNatClampNeg)) := by rw [em_lg119, em_it120]; exact (congrArg abF fv_a3).trans ((abF_0 rfl).trans (rfl))
  have T124 : abF (fv lg119 it120 (a1 + 5 + 2 * a2.toNatClampNeg)) = (some s) := by rw [em_lg119, em_it120, fv_ne (by omega)]; exact hs
  have T125 : abF (fv lg119 it120 (a1 + 5 + 2 * a3.toNatClampNeg)) = (some t) := by rw [em_lg119, em_it120, fv_ne (by omega)]; exact ht
  have hi126 : vp_in a3 6 := vp_of (by first | omega | ((try simp only [Int32.lt_iff_toInt_lt, Int32.le_iff_toInt_le, ← Int32.toInt_inj, Int32.toInt_toInt64, ti_m14, ti_m13, ti_m12, ti_m11, ti_m10, ti_m9, ti_m6, ti_m5, ti_m4, ti_m3, ti_m2, ti_m1, ti_0, ti_1, ti_2, ti_3, ti_4, ti_5, ti_6, ti_7, ti_8, ti_9, ti_10, ti_11, ti_12, ti_19, ti_20, ti_21, ti_44, ti_45, ti_48, ti_57, ti_59, ti_60, ti_98, ti_99, ti_100, ti_101, ti_103, ti_108, ti_110, ti_114, ti_127]); omega) | (split <;> omega)) (by first | omega | ((try simp only [Int32.lt_iff_toInt_lt, Int32.le_iff_toInt_le, ← Int32.toInt_inj, Int32.toInt_toInt64, ti_m14, ti_m13, ti_m12, ti_m11, ti_m10, ti_m9, ti_m6, ti_m5, ti_m4, ti_m3, ti_m2, ti_m1, ti_0, ti_1, ti_2, ti_3, ti_4, ti_5, ti_6, ti_7, ti_8, ti_9, ti_10, ti_11, ti_12, ti_19, ti_20, ti_21, ti_44, ti_45, ti_48, ti_57, ti_59, ti_60, ti_98, ti_99, ti_100, ti_101, ti_103, ti_108, ti_110, ti_114, ti_127]); omega) | (split <;> omega))
  refine ⟨hi126, ?_⟩
  have hz127 := vlt hi126
  intro lg128 em_lg128 it129 em_it129
  have hI130 : I8 lg128 it129 := by rw [em_it129]; exact i8_u hI121 (ok8_1 (oq_448) (fun _ => Or.inl rfl))
  have hK131 : Kc (fun j => (443 ≤ j ∧ j < 450) ∨ (a1 + 5 + 2 * a2.toNatClampNeg ≤ j ∧ j < a1 + 6 + 2 * a2.toNatClampNeg) ∨ (a1 + 5 + 2 * a3.toNatClampNeg ≤ j ∧ j < a1 + 6 + 2 * a3.toNatClampNeg)) lg0 it0 lg128 it129 := by rw [em_lg128, em_it129]; exact kc_f (by first | omega | (dsimp only; omega)) hK122
  have T132 : abF (fv lg128 it129 448) = (mF (it0 (a1 + 1) a3.toNatClampNeg)) := by rw [em_lg128, em_it129]; exact (congrArg abF fv_a3).trans ((abF_0 rfl).trans (by rw [(hK122 (a1 + 1) (by first | omega | (dsimp only; omega))).2]; rfl))
  have T133 : abF (fv lg128 it129 447) = (mF (it0 (a1 + 1) a2.toNatClampNeg)) := by rw [em_lg128, em_it129, fv_ne (by omega)]; exact T123
  have T134 : abF (fv lg128 it129 (a1 + 5 + 2 * a2.toNatClampNeg)) = (some s) := by rw [em_lg128, em_it129, fv_ne (by omega)]; exact T124
  have T135 : abF (fv lg128 it129 (a1 + 5 + 2 * a3.toNatClampNeg)) = (some t) := by rw [em_lg128, em_it129, fv_ne (by omega)]; exact T125
  have hi136 : vp_in a2 6 := vp_of (by first | omega | ((try simp only [Int32.lt_iff_toInt_lt, Int32.le_iff_toInt_le, ← Int32.toInt_inj, Int32.toInt_toInt64, ti_m14, ti_m13, ti_m12, ti_m11, ti_m10, ti_m9, ti_m6, ti_m5, ti_m4, ti_m3, ti_m2, ti_m1, ti_0, ti_1, ti_2, ti_3, ti_4, ti_5, ti_6, ti_7, ti_8, ti_9, ti_10, ti_11, ti_12, ti_19, ti_20, ti_21, ti_44, ti_45, ti_48, ti_57, ti_59, ti_60, ti_98, ti_99, ti_100, ti_101, ti_103, ti_108, ti_110, ti_114, ti_127]); omega) | (split <;> omega)) (by first | omega | ((try simp only [Int32.lt_iff_toInt_lt, Int32.le_iff_toInt_le, ← Int32.toInt_inj, Int32.toInt_toInt64, ti_m14, ti_m13, ti_m12, ti_m11, ti_m10, ti_m9, ti_m6, ti_m5, ti_m4, ti_m3, ti_m2, ti_m1, ti_0, ti_1, ti_2, ti_3, ti_4, ti_5, ti_6, ti_7, ti_8, ti_9, ti_10, ti_11, ti_12, ti_19, ti_20, ti_21, ti_44, ti_45, ti_48, ti_57, ti_59, ti_60, ti_98, ti_99, ti_100, ti_101, ti_103, ti_108, ti_110, ti_114, ti_127]); omega) | (split <;> omega))
  refine ⟨hi136, ?_⟩
  have hz137 := vlt hi136
  have hi138 : vp_in a3 6 := vp_of (by first | omega | ((try simp only [Int32.lt_iff_toInt_lt, Int32.le_iff_toInt_le, ← Int32.toInt_inj, Int32.toInt_toInt64, ti_m14, ti_m13, ti_m12, ti_m11, ti_m10, ti_m9, ti_m6, ti_m5, ti_m4, ti_m3, ti_m2, ti_m1, ti_0, ti_1, ti_2, ti_3, ti_4, ti_5, ti_6, ti_7, ti_8, ti_9, ti_10, ti_11, ti_12, ti_19, ti_20, ti_21, ti_44, ti_45, ti_48, ti_57, ti_59, ti_60, ti_98, ti_99, ti_100, ti_101, ti_103, ti_108, ti_110, ti_114, ti_127]); omega) | (split <;> omega)) (by first | omega | ((try simp only [Int32.lt_iff_toInt_lt, Int32.le_iff_toInt_le, ← Int32.toInt_inj, Int32.toInt_toInt64, ti_m14, ti_m13, ti_m12, ti_m11, ti_m10, ti_m9, ti_m6, ti_m5, ti_m4, ti_m3, ti_m2, ti_m1, ti_0, ti_1, ti_2, ti_3, ti_4, ti_5, ti_6, ti_7, ti_8, ti_9, ti_10, ti_11, ti_12, ti_19, ti_20, ti_21, ti_44, ti_45, ti_48, ti_57, ti_59, ti_60, ti_98, ti_99, ti_100, ti_101, ti_103, ti_108, ti_110, ti_114, ti_127]); omega) | (split <;> omega))
  refine ⟨hi138, ?_⟩
  have hz139 := vlt hi138
  try have f140 : (((it129 (a1 + 1) a2.toNatClampNeg) + (it129 (a1 + 1) a3.toNatClampNeg)) : Int32).toInt = ((it129 (a1 + 1) a2.toNatClampNeg)).toInt + ((it129 (a1 + 1) a3.toNatClampNeg)).toInt := ad32 (a := ((it129 (a1 + 1) a2.toNatClampNeg)).toInt) (b := ((it129 (a1 + 1) a3.toNatClampNeg)).toInt) (rfl) (rfl) (by omega) (by omega)
  intro lg141 em_lg141 it142 em_it142
  have hI143 : I8 lg141 it142 := by rw [em_it142]; exact i8_u hI130 (ok8_1 (oq_449) (fun _ => Or.inl rfl))
  have hK144 : Kc (fun j => (443 ≤ j ∧ j < 450) ∨ (a1 + 5 + 2 * a2.toNatClampNeg ≤ j ∧ j < a1 + 6 + 2 * a2.toNatClampNeg) ∨ (a1 + 5 + 2 * a3.toNatClampNeg ≤ j ∧ j < a1 + 6 + 2 * a3.toNatClampNeg)) lg0 it0 lg141 it142 := by rw [em_lg141, em_it142]; exact kc_f (by first | omega | (dsimp only; omega)) hK131
  have T145 : abF (fv lg141 it142 449) = (mF ((it0 (a1 + 1) a2.toNatClampNeg) + (it0 (a1 + 1) a3.toNatClampNeg))) := by rw [em_lg141, em_it142]; exact (congrArg abF fv_a3).trans ((abF_0 rfl).trans (by rw [(hK131 (a1 + 1) (by first | omega | (dsimp only; omega))).2]; rfl))
  have T146 : abF (fv lg141 it142 448) = (mF (it0 (a1 + 1) a3.toNatClampNeg)) := by rw [em_lg141, em_it142, fv_ne (by omega)]; exact T132
  have T147 : abF (fv lg141 it142 447) = (mF (it0 (a1 + 1) a2.toNatClampNeg)) := by rw [em_lg141, em_it142, fv_ne (by omega)]; exact T133
  have T148 : abF (fv lg141 it142 (a1 + 5 + 2 * a2.toNatClampNeg)) = (some s) := by rw [em_lg141, em_it142, fv_ne (by omega)]; exact T134
  have T149 : abF (fv lg141 it142 (a1 + 5 + 2 * a3.toNatClampNeg)) = (some t) := by rw [em_lg141, em_it142, fv_ne (by omega)]; exact T135
  intro q150 em_q150 lg151 em_lg151 it152 em_it152
  have hI153 : I8 lg151 it152 := by rw [em_it152]; exact i8_u hI143 (ok8_1 (oq_443) (fun _ => by rw [em_q150]; exact stF_01 _ _ _ _ _))
  have hK154 : Kc (fun j => (443 ≤ j ∧ j < 450) ∨ (a1 + 5 + 2 * a2.toNatClampNeg ≤ j ∧ j < a1 + 6 + 2 * a2.toNatClampNeg) ∨ (a1 + 5 + 2 * a3.toNatClampNeg ≤ j ∧ j < a1 + 6 + 2 * a3.toNatClampNeg)) lg0 it0 lg151 it152 := by rw [em_lg151, em_it152]; exact kc_f (by first | omega | (dsimp only; omega)) hK144
  have T155 : abF (fv lg151 it152 443) = (qF (it0 a1 4)) := by rw [em_lg151, em_it152, fv_at, em_q150]; exact by rw [(hK144 a1 (by first | omega | (dsimp only; omega))).2]; exact rat4 he
  have T156 : abF (fv lg151 it152 449) = (mF ((it0 (a1 + 1) a2.toNatClampNeg) + (it0 (a1 + 1) a3.toNatClampNeg))) := by rw [em_lg151, em_it152, fv_ne (by omega)]; exact T145
  have T157 : abF (fv lg151 it152 448) = (mF (it0 (a1 + 1) a3.toNatClampNeg)) := by rw [em_lg151, em_it152, fv_ne (by omega)]; exact T146
  have T158 : abF (fv lg151 it152 447) = (mF (it0 (a1 + 1) a2.toNatClampNeg)) := by rw [em_lg151, em_it152, fv_ne (by omega)]; exact T147
  have T159 : abF (fv lg151 it152 (a1 + 5 + 2 * a2.toNatClampNeg)) = (some s) := by rw [em_lg151, em_it152, fv_ne (by omega)]; exact T148
  have T160 : abF (fv lg151 it152 (a1 + 5 + 2 * a3.toNatClampNeg)) = (some t) := by rw [em_lg151, em_it152, fv_ne (by omega)]; exact T149
  try have e161 : (it152 a1 4).toInt = (it142 a1 4).toInt := by rw [em_it152]; exact congrArg Int32.toInt (congrFun (u2_row (by omega)) 4)
  have hc164 : it152 (a1 + 5 + 2 * a2.toNatClampNeg) 2 &&& 1 = it152 (a1 + 5 + 2 * a2.toNatClampNeg) 2 := ib (i8_1 hI153 ((rpo5 ha1 (vlt (hi113)))))
  refine ⟨hc164, ?_⟩
  intro lg162 em_lg162 it163 em_it163
  have hI165 : I8 lg162 it163 := by rw [em_it163]; exact i8_u hI153 (ok8_1 (oq_444) (fun _ => i8_1 hI153 ((rpo5 ha1 (vlt (hi113))))))
  have hK166 : Kc (fun j => (443 ≤ j ∧ j < 450) ∨ (a1 + 5 + 2 * a2.toNatClampNeg ≤ j ∧ j < a1 + 6 + 2 * a2.toNatClampNeg) ∨ (a1 + 5 + 2 * a3.toNatClampNeg ≤ j ∧ j < a1 + 6 + 2 * a3.toNatClampNeg)) lg0 it0 lg162 it163 := by rw [em_lg162, em_it163]; exact kc_f (by first | omega | (dsimp only; omega)) hK154
  have T167 : abF (fv lg162 it163 444) = (some s) := by rw [em_lg162, em_it163]; exact (congrArg abF fv_a3).trans T159
  have T168 : abF (fv lg162 it163 443) = (qF (it0 a1 4)) := by rw [em_lg162, em_it163, fv_ne (by omega)]; exact T155
  have T169 : abF (fv lg162 it163 449) = (mF ((it0 (a1 + 1) a2.toNatClampNeg) + (it0 (a1 + 1) a3.toNatClampNeg))) := by rw [em_lg162, em_it163, fv_ne (by omega)]; exact T156
  have T170 : abF (fv lg162 it163 448) = (mF (it0 (a1 + 1) a3.toNatClampNeg)) := by rw [em_lg162, em_it163, fv_ne (by omega)]; exact T157
  have T171 : abF (fv lg162 it163 447) = (mF (it0 (a1 + 1) a2.toNatClampNeg)) := by rw [em_lg162, em_it163, fv_ne (by omega)]; exact T158
  have T172 : abF (fv lg162 it163 (a1 + 5 + 2 * a2.toNatClampNeg)) = (some s) := by rw [em_lg162, em_it163, fv_ne (by omega)]; exact T159
  have T173 : abF (fv lg162 it163 (a1 + 5 + 2 * a3.toNatClampNeg)) = (some t) := by rw [em_lg162, em_it163, fv_ne (by omega)]; exact T160
  try have e174 : (it163 a1 4).toInt = (it152 a1 4).toInt := by rw [em_it163]; exact congrArg Int32.toInt (congrFun (u2_row (by omega)) 4)
  intro q175 em_q175 lg176 em_lg176 it177 em_it177
  have hI178 : I8 lg176 it177 := by rw [em_it177]; exact i8_u hI165 (ok8_1 (oq_444) (fun _ => by rw [em_q175]; exact stF_01 _ _ _ _ _))
  have hK179 : Kc (fun j => (443 ≤ j ∧ j < 450) ∨ (a1 + 5 + 2 * a2.toNatClampNeg ≤ j ∧ j < a1 + 6 + 2 * a2.toNatClampNeg) ∨ (a1 + 5 + 2 * a3.toNatClampNeg ≤ j ∧ j < a1 + 6 + 2 * a3.toNatClampNeg)) lg0 it0 lg176 it177 := by rw [em_lg176, em_it177]; exact kc_f (by first | omega | (dsimp only; omega)) hK166
  have T180 : abF (fv lg176 it177 444) = (oT (some s) (mF (it0 (a1 + 1) a2.toNatClampNeg))) := by rw [em_lg176, em_it177, fv_at, em_q175, ab_t, T167, T171]
  have T181 : abF (fv lg176 it177 443) = (qF (it0 a1 4)) := by rw [em_lg176, em_it177, fv_ne (by omega)]; exact T168
  have T182 : abF (fv lg176 it177 449) = (mF ((it0 (a1 + 1) a2.toNatClampNeg) + (it0 (a1 + 1) a3.toNatClampNeg))) := by rw [em_lg176, em_it177, fv_ne (by omega)]; exact T169
  have T183 : abF (fv lg176 it177 448) = (mF (it0 (a1 + 1) a3.toNatClampNeg)) := by rw [em_lg176, em_it177, fv_ne (by omega)]; exact T170
  have T184 : abF (fv lg176 it177 447) = (mF (it0 (a1 + 1) a2.toNatClampNeg)) := by rw [em_lg176, em_it177, fv_ne (by omega)]; exact T171
  have T185 : abF (fv lg176 it177 (a1 + 5 + 2 * a2.toNatClampNeg)) = (some s) := by rw [em_lg176, em_it177, fv_ne (by omega)]; exact T172
  have T186 : abF (fv lg176 it177 (a1 + 5 + 2 * a3.toNatClampNeg)) = (some t) := by rw [em_lg176, em_it177, fv_ne (by omega)]; exact T173
  try have e187 : (it177 a1 4).toInt = (it163 a1 4).toInt := by rw [em_it177]; exact congrArg Int32.toInt (congrFun (u2_row (by omega)) 4)
  have hc190 : it177 (a1 + 5 + 2 * a3.toNatClampNeg) 2 &&& 1 = it177 (a1 + 5 + 2 * a3.toNatClampNeg) 2 := ib (i8_1 hI178 ((rpo5 ha1 (vlt (hi115)))))
  refine ⟨hc190, ?_⟩
  intro lg188 em_lg188 it189 em_it189
  have hI191 : I8 lg188 it189 := by rw [em_it189]; exact i8_u hI178 (ok8_1 (oq_446) (fun _ => i8_1 hI178 ((rpo5 ha1 (vlt (hi115))))))
  have hK192 : Kc (fun j => (443 ≤ j ∧ j < 450) ∨ (a1 + 5 + 2 * a2.toNatClampNeg ≤ j ∧ j < a1 + 6 + 2 * a2.toNatClampNeg) ∨ (a1 + 5 + 2 * a3.toNatClampNeg ≤ j ∧ j < a1 + 6 + 2 * a3.toNatClampNeg)) lg0 it0 lg188 it189 := by rw [em_lg188, em_it189]; exact kc_f (by first | omega | (dsimp only; omega)) hK179
  have T193 : abF (fv lg188 it189 446) = (some t) := by rw [em_lg188, em_it189]; exact (congrArg abF fv_a3).trans T186
  have T194 : abF (fv lg188 it189 444) = (oT (some s) (mF (it0 (a1 + 1) a2.toNatClampNeg))) := by rw [em_lg188, em_it189, fv_ne (by omega)]; exact T180
  have T195 : abF (fv lg188 it189 443) = (qF (it0 a1 4)) := by rw [em_lg188, em_it189, fv_ne (by omega)]; exact T181
  have T196 : abF (fv lg188 it189 449) = (mF ((it0 (a1 + 1) a2.toNatClampNeg) + (it0 (a1 + 1) a3.toNatClampNeg))) := by rw [em_lg188, em_it189, fv_ne (by omega)]; exact T182
  have T197 : abF (fv lg188 it189 448) = (mF (it0 (a1 + 1) a3.toNatClampNeg)) := by rw [em_lg188, em_it189, fv_ne (by omega)]; exact T183
  have T198 : abF (fv lg188 it189 447) = (mF (it0 (a1 + 1) a2.toNatClampNeg)) := by rw [em_lg188, em_it189, fv_ne (by omega)]; exact T184
  have T199 : abF (fv lg188 it189 (a1 + 5 + 2 * a2.toNatClampNeg)) = (some s) := by rw [em_lg188, em_it189, fv_ne (by omega)]; exact T185
  have T200 : abF (fv lg188 it189 (a1 + 5 + 2 * a3.toNatClampNeg)) = (some t) := by rw [em_lg188, em_it189, fv_ne (by omega)]; exact T186
  try have e201 : (it189 a1 4).toInt = (it177 a1 4).toInt := by rw [em_it189]; exact congrArg Int32.toInt (congrFun (u2_row (by omega)) 4)
  intro q202 em_q202 lg203 em_lg203 it204 em_it204
  have hI205 : I8 lg203 it204 := by rw [em_it204]; exact i8_u hI191 (ok8_1 (oq_446) (fun _ => by rw [em_q202]; exact stF_01 _ _ _ _ _))
  have hK206 : Kc (fun j => (443 ≤ j ∧ j < 450) ∨ (a1 + 5 + 2 * a2.toNatClampNeg ≤ j ∧ j < a1 + 6 + 2 * a2.toNatClampNeg) ∨ (a1 + 5 + 2 * a3.toNatClampNeg ≤ j ∧ j < a1 + 6 + 2 * a3.toNatClampNeg)) lg0 it0 lg203 it204 := by rw [em_lg203, em_it204]; exact kc_f (by first | omega | (dsimp only; omega)) hK192
  have T207 : abF (fv lg203 it204 446) = (oT (some t) (mF (it0 (a1 + 1) a3.toNatClampNeg))) := by rw [em_lg203, em_it204, fv_at, em_q202, ab_t, T193, T197]
  have T208 : abF (fv lg203 it204 444) = (oT (some s) (mF (it0 (a1 + 1) a2.toNatClampNeg))) := by rw [em_lg203, em_it204, fv_ne (by omega)]; exact T194
  have T209 : abF (fv lg203 it204 443) = (qF (it0 a1 4)) := by rw [em_lg203, em_it204, fv_ne (by omega)]; exact T195
  have T210 : abF (fv lg203 it204 449) = (mF ((it0 (a1 + 1) a2.toNatClampNeg) + (it0 (a1 + 1) a3.toNatClampNeg))) := by rw [em_lg203, em_it204, fv_ne (by omega)]; exact T196
  have T211 : abF (fv lg203 it204 448) = (mF (it0 (a1 + 1) a3.toNatClampNeg)) := by rw [em_lg203, em_it204, fv_ne (by omega)]; exact T197
  have T212 : abF (fv lg203 it204 447) = (mF (it0 (a1 + 1) a2.toNatClampNeg)) := by rw [em_lg203, em_it204, fv_ne (by omega)]; exact T198
  have T213 : abF (fv lg203 it204 (a1 + 5 + 2 * a2.toNatClampNeg)) = (some s) := by rw [em_lg203, em_it204, fv_ne (by omega)]; exact T199
  have T214 : abF (fv lg203 it204 (a1 + 5 + 2 * a3.toNatClampNeg)) = (some t) := by rw [em_lg203, em_it204, fv_ne (by omega)]; exact T200
  try have e215 : (it204 a1 4).toInt = (it189 a1 4).toInt := by rw [em_it204]; exact congrArg Int32.toInt (congrFun (u2_row (by omega)) 4)
  intro q216 em_q216 lg217 em_lg217 it218 em_it218
  have hI219 : I8 lg217 it218 := by rw [em_it218]; exact i8_u hI205 (ok8_1 (oq_444) (fun _ => by rw [em_q216]; exact stF_01 _ _ _ _ _))
  have hK220 : Kc (fun j => (443 ≤ j ∧ j < 450) ∨ (a1 + 5 + 2 * a2.toNatClampNeg ≤ j ∧ j < a1 + 6 + 2 * a2.toNatClampNeg) ∨ (a1 + 5 + 2 * a3.toNatClampNeg ≤ j ∧ j < a1 + 6 + 2 * a3.toNatClampNeg)) lg0 it0 lg217 it218 := by rw [em_lg217, em_it218]; exact kc_f (by first | omega | (dsimp only; omega)) hK206
  have T221 : abF (fv lg217 it218 444) = (oP (oT (some s) (mF (it0 (a1 + 1) a2.toNatClampNeg))) (oT (some t) (mF (it0 (a1 + 1) a3.toNatClampNeg)))) := by rw [em_lg217, em_it218, fv_at, em_q216, ab_p, T208, T207]
  have T222 : abF (fv lg217 it218 446) = (oT (some t) (mF (it0 (a1 + 1) a3.toNatClampNeg))) := by rw [em_lg217, em_it218, fv_ne (by omega)]; exact T207
  have T223 : abF (fv lg217 it218 443) = (qF (it0 a1 4)) := by rw [em_lg217, em_it218, fv_ne (by omega)]; exact T209
  have T224 : abF (fv lg217 it218 449) = (mF ((it0 (a1 + 1) a2.toNatClampNeg) + (it0 (a1 + 1) a3.toNatClampNeg))) := by rw [em_lg217, em_it218, fv_ne (by omega)]; exact T210
  have T225 : abF (fv lg217 it218 448) = (mF (it0 (a1 + 1) a3.toNatClampNeg)) := by rw [em_lg217, em_it218, fv_ne (by omega)]; exact T211
  have T226 : abF (fv lg217 it218 447) = (mF (it0 (a1 + 1) a2.toNatClampNeg)) := by rw [em_lg217, em_it218, fv_ne (by omega)]; exact T212
  have T227 : abF (fv lg217 it218 (a1 + 5 + 2 * a2.toNatClampNeg)) = (some s) := by rw [em_lg217, em_it218, fv_ne (by omega)]; exact T213
  have T228 : abF (fv lg217 it218 (a1 + 5 + 2 * a3.toNatClampNeg)) = (some t) := by rw [em_lg217, em_it218, fv_ne (by omega)]; exact T214
  try have e229 : (it218 a1 4).toInt = (it204 a1 4).toInt := by rw [em_it218]; exact congrArg Int32.toInt (congrFun (u2_row (by omega)) 4)
  intro q230 em_q230 lg231 em_lg231 it232 em_it232
  have hI233 : I8 lg231 it232 := by rw [em_it232]; exact i8_u hI219 (ok8_1 (oq_444) (fun _ => by rw [em_q230]; exact stF_01 _ _ _ _ _))
  have hK234 : Kc (fun j => (443 ≤ j ∧ j < 450) ∨ (a1 + 5 + 2 * a2.toNatClampNeg ≤ j ∧ j < a1 + 6 + 2 * a2.toNatClampNeg) ∨ (a1 + 5 + 2 * a3.toNatClampNeg ≤ j ∧ j < a1 + 6 + 2 * a3.toNatClampNeg)) lg0 it0 lg231 it232 := by rw [em_lg231, em_it232]; exact kc_f (by first | omega | (dsimp only; omega)) hK220
  have T235 : abF (fv lg231 it232 444) = (oB (oP (oT (some s) (mF (it0 (a1 + 1) a2.toNatClampNeg))) (oT (some t) (mF (it0 (a1 + 1) a3.toNatClampNeg)))) (mF ((it0 (a1 + 1) a2.toNatClampNeg) + (it0 (a1 + 1) a3.toNatClampNeg)))) := by rw [em_lg231, em_it232, fv_at, em_q230, ab_b, T221, T224]
  have T236 : abF (fv lg231 it232 446) = (oT (some t) (mF (it0 (a1 + 1) a3.toNatClampNeg))) := by rw [em_lg231, em_it232, fv_ne (by omega)]; exact T222
  have T237 : abF (fv lg231 it232 443) = (qF (it0 a1 4)) := by rw [em_lg231, em_it232, fv_ne (by omega)]; exact T223
  have T238 : abF (fv lg231 it232 449) = (mF ((it0 (a1 + 1) a2.toNatClampNeg) + (it0 (a1 + 1) a3.toNatClampNeg))) := by rw [em_lg231, em_it232, fv_ne (by omega)]; exact T224
  have T239 : abF (fv lg231 it232 448) = (mF (it0 (a1 + 1) a3.toNatClampNeg)) := by rw [em_lg231, em_it232, fv_ne (by omega)]; exact T225
  have T240 : abF (fv lg231 it232 447) = (mF (it0 (a1 + 1) a2.toNatClampNeg)) := by rw [em_lg231, em_it232, fv_ne (by omega)]; exact T226
  have T241 : abF (fv lg231 it232 (a1 + 5 + 2 * a2.toNatClampNeg)) = (some s) := by rw [em_lg231, em_it232, fv_ne (by omega)]; exact T227
  have T242 : abF (fv lg231 it232 (a1 + 5 + 2 * a3.toNatClampNeg)) = (some t) := by rw [em_lg231, em_it232, fv_ne (by omega)]; exact T228
  try have e243 : (it232 a1 4).toInt = (it218 a1 4).toInt := by rw [em_it232]; exact congrArg Int32.toInt (congrFun (u2_row (by omega)) 4)
  have hc246 : it232 (a1 + 5 + 2 * a2.toNatClampNeg) 2 &&& 1 = it232 (a1 + 5 + 2 * a2.toNatClampNeg) 2 := ib (i8_1 hI233 ((rpo5 ha1 (vlt (hi113)))))
  refine ⟨hc246, ?_⟩
  intro lg244 em_lg244 it245 em_it245
  have hI247 : I8 lg244 it245 := by rw [em_it245]; exact i8_u hI233 (ok8_1 (oq_445) (fun _ => i8_1 hI233 ((rpo5 ha1 (vlt (hi113))))))
  have hK248 : Kc (fun j => (443 ≤ j ∧ j < 450) ∨ (a1 + 5 + 2 * a2.toNatClampNeg ≤ j ∧ j < a1 + 6 + 2 * a2.toNatClampNeg) ∨ (a1 + 5 + 2 * a3.toNatClampNeg ≤ j ∧ j < a1 + 6 + 2 * a3.toNatClampNeg)) lg0 it0 lg244 it245 := by rw [em_lg244, em_it245]; exact kc_f (by first | omega | (dsimp only; omega)) hK234
  have T249 : abF (fv lg244 it245 445) = (some s) := by rw [em_lg244, em_it245]; exact (congrArg abF fv_a3).trans T241
  have T250 : abF (fv lg244 it245 444) = (oB (oP (oT (some s) (mF (it0 (a1 + 1) a2.toNatClampNeg))) (oT (some t) (mF (it0 (a1 + 1) a3.toNatClampNeg)))) (mF ((it0 (a1 + 1) a2.toNatClampNeg) + (it0 (a1 + 1) a3.toNatClampNeg)))) := by rw [em_lg244, em_it245, fv_ne (by omega)]; exact T235
  have T251 : abF (fv lg244 it245 446) = (oT (some t) (mF (it0 (a1 + 1) a3.toNatClampNeg))) := by rw [em_lg244, em_it245, fv_ne (by omega)]; exact T236
  have T252 : abF (fv lg244 it245 443) = (qF (it0 a1 4)) := by rw [em_lg244, em_it245, fv_ne (by omega)]; exact T237
  have T253 : abF (fv lg244 it245 449) = (mF ((it0 (a1 + 1) a2.toNatClampNeg) + (it0 (a1 + 1) a3.toNatClampNeg))) := by rw [em_lg244, em_it245, fv_ne (by omega)]; exact T238
  have T254 : abF (fv lg244 it245 448) = (mF (it0 (a1 + 1) a3.toNatClampNeg)) := by rw [em_lg244, em_it245, fv_ne (by omega)]; exact T239
  have T255 : abF (fv lg244 it245 447) = (mF (it0 (a1 + 1) a2.toNatClampNeg)) := by rw [em_lg244, em_it245, fv_ne (by omega)]; exact T240
  have T256 : abF (fv lg244 it245 (a1 + 5 + 2 * a2.toNatClampNeg)) = (some s) := by rw [em_lg244, em_it245, fv_ne (by omega)]; exact T241
  have T257 : abF (fv lg244 it245 (a1 + 5 + 2 * a3.toNatClampNeg)) = (some t) := by rw [em_lg244, em_it245, fv_ne (by omega)]; exact T242
  try have e258 : (it245 a1 4).toInt = (it232 a1 4).toInt := by rw [em_it245]; exact congrArg Int32.toInt (congrFun (u2_row (by omega)) 4)
  intro q259 em_q259 lg260 em_lg260 it261 em_it261
  have hI262 : I8 lg260 it261 := by rw [em_it261]; exact i8_u hI247 (ok8_1 (oq_445) (fun _ => by rw [em_q259]; exact stF_01 _ _ _ _ _))
  have hK263 : Kc (fun j => (443 ≤ j ∧ j < 450) ∨ (a1 + 5 + 2 * a2.toNatClampNeg ≤ j ∧ j < a1 + 6 + 2 * a2.toNatClampNeg) ∨ (a1 + 5 + 2 * a3.toNatClampNeg ≤ j ∧ j < a1 + 6 + 2 * a3.toNatClampNeg)) lg0 it0 lg260 it261 := by rw [em_lg260, em_it261]; exact kc_f (by first | omega | (dsimp only; omega)) hK248
  have T264 : abF (fv lg260 it261 445) = (oL (some s) (some t)) := by rw [em_lg260, em_it261, fv_at, em_q259, ab_l, T249, T257]
  have T265 : abF (fv lg260 it261 444) = (oB (oP (oT (some s) (mF (it0 (a1 + 1) a2.toNatClampNeg))) (oT (some t) (mF (it0 (a1 + 1) a3.toNatClampNeg)))) (mF ((it0 (a1 + 1) a2.toNatClampNeg) + (it0 (a1 + 1) a3.toNatClampNeg)))) := by rw [em_lg260, em_it261, fv_ne (by omega)]; exact T250
  have T266 : abF (fv lg260 it261 446) = (oT (some t) (mF (it0 (a1 + 1) a3.toNatClampNeg))) := by rw [em_lg260, em_it261, fv_ne (by omega)]; exact T251
  have T267 : abF (fv lg260 it261 443) = (qF (it0 a1 4)) := by rw [em_lg260, em_it261, fv_ne (by omega)]; exact T252
  have T268 : abF (fv lg260 it261 449) = (mF ((it0 (a1 + 1) a2.toNatClampNeg) + (it0 (a1 + 1) a3.toNatClampNeg))) := by rw [em_lg260, em_it261, fv_ne (by omega)]; exact T253
  have T269 : abF (fv lg260 it261 448) = (mF (it0 (a1 + 1) a3.toNatClampNeg)) := by rw [em_lg260, em_it261, fv_ne (by omega)]; exact T254
  have T270 : abF (fv lg260 it261 447) = (mF (it0 (a1 + 1) a2.toNatClampNeg)) := by rw [em_lg260, em_it261, fv_ne (by omega)]; exact T255
  have T271 : abF (fv lg260 it261 (a1 + 5 + 2 * a2.toNatClampNeg)) = (some s) := by rw [em_lg260, em_it261, fv_ne (by omega)]; exact T256
  have T272 : abF (fv lg260 it261 (a1 + 5 + 2 * a3.toNatClampNeg)) = (some t) := by rw [em_lg260, em_it261, fv_ne (by omega)]; exact T257
  try have e273 : (it261 a1 4).toInt = (it245 a1 4).toInt := by rw [em_it261]; exact congrArg Int32.toInt (congrFun (u2_row (by omega)) 4)
  intro q274 em_q274 lg275 em_lg275 it276 em_it276
  have hI277 : I8 lg275 it276 := by rw [em_it276]; exact i8_u hI262 (ok8_1 (oq_445) (fun _ => by rw [em_q274]; exact stF_01 _ _ _ _ _))
  have hK278 : Kc (fun j => (443 ≤ j ∧ j < 450) ∨ (a1 + 5 + 2 * a2.toNatClampNeg ≤ j ∧ j < a1 + 6 + 2 * a2.toNatClampNeg) ∨ (a1 + 5 + 2 * a3.toNatClampNeg ≤ j ∧ j < a1 + 6 + 2 * a3.toNatClampNeg)) lg0 it0 lg275 it276 := by rw [em_lg275, em_it276]; exact kc_f (by first | omega | (dsimp only; omega)) hK263
  have T279 : abF (fv lg275 it276 445) = (oT (oL (some s) (some t)) (qF (it0 a1 4))) := by rw [em_lg275, em_it276, fv_at, em_q274, ab_t, T264, T267]
  have T280 : abF (fv lg275 it276 444) = (oB (oP (oT (some s) (mF (it0 (a1 + 1) a2.toNatClampNeg))) (oT (some t) (mF (it0 (a1 + 1) a3.toNatClampNeg)))) (mF ((it0 (a1 + 1) a2.toNatClampNeg) + (it0 (a1 + 1) a3.toNatClampNeg)))) := by rw [em_lg275, em_it276, fv_ne (by omega)]; exact T265
  have T281 : abF (fv lg275 it276 446) = (oT (some t) (mF (it0 (a1 + 1) a3.toNatClampNeg))) := by rw [em_lg275, em_it276, fv_ne (by omega)]; exact T266
  have T282 : abF (fv lg275 it276 443) = (qF (it0 a1 4)) := by rw [em_lg275, em_it276, fv_ne (by omega)]; exact T267
  have T283 : abF (fv lg275 it276 449) = (mF ((it0 (a1 + 1) a2.toNatClampNeg) + (it0 (a1 + 1) a3.toNatClampNeg))) := by rw [em_lg275, em_it276, fv_ne (by omega)]; exact T268
  have T284 : abF (fv lg275 it276 448) = (mF (it0 (a1 + 1) a3.toNatClampNeg)) := by rw [em_lg275, em_it276, fv_ne (by omega)]; exact T269
  have T285 : abF (fv lg275 it276 447) = (mF (it0 (a1 + 1) a2.toNatClampNeg)) := by rw [em_lg275, em_it276, fv_ne (by omega)]; exact T270
  have T286 : abF (fv lg275 it276 (a1 + 5 + 2 * a2.toNatClampNeg)) = (some s) := by rw [em_lg275, em_it276, fv_ne (by omega)]; exact T271
  have T287 : abF (fv lg275 it276 (a1 + 5 + 2 * a3.toNatClampNeg)) = (some t) := by rw [em_lg275, em_it276, fv_ne (by omega)]; exact T272
  try have e288 : (it276 a1 4).toInt = (it261 a1 4).toInt := by rw [em_it276]; exact congrArg Int32.toInt (congrFun (u2_row (by omega)) 4)
  have hc291 : it276 445 2 &&& 1 = it276 445 2 := ib (i8_1 hI277 (oq_445))
  refine ⟨hc291, ?_⟩
  intro lg289 em_lg289 it290 em_it290
  have hI292 : I8 lg289 it290 := by rw [em_it290]; exact i8_u hI277 (ok8_1 (oq_446) (fun _ => i8_1 hI277 (oq_445)))
  have hK293 : Kc (fun j => (443 ≤ j ∧ j < 450) ∨ (a1 + 5 + 2 * a2.toNatClampNeg ≤ j ∧ j < a1 + 6 + 2 * a2.toNatClampNeg) ∨ (a1 + 5 + 2 * a3.toNatClampNeg ≤ j ∧ j < a1 + 6 + 2 * a3.toNatClampNeg)) lg0 it0 lg289 it290 := by rw [em_lg289, em_it290]; exact kc_f (by first | omega | (dsimp only; omega)) hK278
  have T294 : abF (fv lg289 it290 446) = (oT (oL (some s) (some t)) (qF (it0 a1 4))) := by rw [em_lg289, em_it290]; exact (congrArg abF fv_a3).trans T279
  have T295 : abF (fv lg289 it290 445) = (oT (oL (some s) (some t)) (qF (it0 a1 4))) := by rw [em_lg289, em_it290, fv_ne (by omega)]; exact T279
  have T296 : abF (fv lg289 it290 444) = (oB (oP (oT (some s) (mF (it0 (a1 + 1) a2.toNatClampNeg))) (oT (some t) (mF (it0 (a1 + 1) a3.toNatClampNeg)))) (mF ((it0 (a1 + 1) a2.toNatClampNeg) + (it0 (a1 + 1) a3.toNatClampNeg)))) := by rw [em_lg289, em_it290, fv_ne (by omega)]; exact T280
  have T297 : abF (fv lg289 it290 443) = (qF (it0 a1 4)) := by rw [em_lg289, em_it290, fv_ne (by omega)]; exact T282
  have T298 : abF (fv lg289 it290 449) = (mF ((it0 (a1 + 1) a2.toNatClampNeg) + (it0 (a1 + 1) a3.toNatClampNeg))) := by rw [em_lg289, em_it290, fv_ne (by omega)]; exact T283
  have T299 : abF (fv lg289 it290 448) = (mF (it0 (a1 + 1) a3.toNatClampNeg)) := by rw [em_lg289, em_it290, fv_ne (by omega)]; exact T284
  have T300 : abF (fv lg289 it290 447) = (mF (it0 (a1 + 1) a2.toNatClampNeg)) := by rw [em_lg289, em_it290, fv_ne (by omega)]; exact T285
  have T301 : abF (fv lg289 it290 (a1 + 5 + 2 * a2.toNatClampNeg)) = (some s) := by rw [em_lg289, em_it290, fv_ne (by omega)]; exact T286
  have T302 : abF (fv lg289 it290 (a1 + 5 + 2 * a3.toNatClampNeg)) = (some t) := by rw [em_lg289, em_it290, fv_ne (by omega)]; exact T287
  try have e303 : (it290 a1 4).toInt = (it276 a1 4).toInt := by rw [em_it290]; exact congrArg Int32.toInt (congrFun (u2_row (by omega)) 4)
  intro q304 em_q304 lg305 em_lg305 it306 em_it306
  have hI307 : I8 lg305 it306 := by rw [em_it306]; exact i8_u hI292 (ok8_1 (oq_446) (fun _ => by rw [em_q304]; exact stF_01 _ _ _ _ _))
  have hK308 : Kc (fun j => (443 ≤ j ∧ j < 450) ∨ (a1 + 5 + 2 * a2.toNatClampNeg ≤ j ∧ j < a1 + 6 + 2 * a2.toNatClampNeg) ∨ (a1 + 5 + 2 * a3.toNatClampNeg ≤ j ∧ j < a1 + 6 + 2 * a3.toNatClampNeg)) lg0 it0 lg305 it306 := by rw [em_lg305, em_it306]; exact kc_f (by first | omega | (dsimp only; omega)) hK293
  have T309 : abF (fv lg305 it306 446) = (oT (oT (oL (some s) (some t)) (qF (it0 a1 4))) (mF (it0 (a1 + 1) a3.toNatClampNeg))) := by rw [em_lg305, em_it306, fv_at, em_q304, ab_t, T294, T299]
  have T310 : abF (fv lg305 it306 445) = (oT (oL (some s) (some t)) (qF (it0 a1 4))) := by rw [em_lg305, em_it306, fv_ne (by omega)]; exact T295
  have T311 : abF (fv lg305 it306 444) = (oB (oP (oT (some s) (mF (it0 (a1 + 1) a2.toNatClampNeg))) (oT (some t) (mF (it0 (a1 + 1) a3.toNatClampNeg)))) (mF ((it0 (a1 + 1) a2.toNatClampNeg) + (it0 (a1 + 1) a3.toNatClampNeg)))) := by rw [em_lg305, em_it306, fv_ne (by omega)]; exact T296
  have T312 : abF (fv lg305 it306 443) = (qF (it0 a1 4)) := by rw [em_lg305, em_it306, fv_ne (by omega)]; exact T297
  have T313 : abF (fv lg305 it306 449) = (mF ((it0 (a1 + 1) a2.toNatClampNeg) + (it0 (a1 + 1) a3.toNatClampNeg))) := by rw [em_lg305, em_it306, fv_ne (by omega)]; exact T298
  have T314 : abF (fv lg305 it306 448) = (mF (it0 (a1 + 1) a3.toNatClampNeg)) := by rw [em_lg305, em_it306, fv_ne (by omega)]; exact T299
  have T315 : abF (fv lg305 it306 447) = (mF (it0 (a1 + 1) a2.toNatClampNeg)) := by rw [em_lg305, em_it306, fv_ne (by omega)]; exact T300
  have T316 : abF (fv lg305 it306 (a1 + 5 + 2 * a2.toNatClampNeg)) = (some s) := by rw [em_lg305, em_it306, fv_ne (by omega)]; exact T301
  have T317 : abF (fv lg305 it306 (a1 + 5 + 2 * a3.toNatClampNeg)) = (some t) := by rw [em_lg305, em_it306, fv_ne (by omega)]; exact T302
  try have e318 : (it306 a1 4).toInt = (it290 a1 4).toInt := by rw [em_it306]; exact congrArg Int32.toInt (congrFun (u2_row (by omega)) 4)
  intro q319 em_q319 lg320 em_lg320 it321 em_it321
  have hI322 : I8 lg320 it321 := by rw [em_it321]; exact i8_u hI307 (ok8_1 (oq_446) (fun _ => by rw [em_q319]; exact stF_01 _ _ _ _ _))
  have hK323 : Kc (fun j => (443 ≤ j ∧ j < 450) ∨ (a1 + 5 + 2 * a2.toNatClampNeg ≤ j ∧ j < a1 + 6 + 2 * a2.toNatClampNeg) ∨ (a1 + 5 + 2 * a3.toNatClampNeg ≤ j ∧ j < a1 + 6 + 2 * a3.toNatClampNeg)) lg0 it0 lg320 it321 := by rw [em_lg320, em_it321]; exact kc_f (by first | omega | (dsimp only; omega)) hK308
  have T324 : abF (fv lg320 it321 446) = (oB (oT (oT (oL (some s) (some t)) (qF (it0 a1 4))) (mF (it0 (a1 + 1) a3.toNatClampNeg))) (mF ((it0 (a1 + 1) a2.toNatClampNeg) + (it0 (a1 + 1) a3.toNatClampNeg)))) := by rw [em_lg320, em_it321, fv_at, em_q319, ab_b, T309, T313]
  have T325 : abF (fv lg320 it321 445) = (oT (oL (some s) (some t)) (qF (it0 a1 4))) := by rw [em_lg320, em_it321, fv_ne (by omega)]; exact T310
  have T326 : abF (fv lg320 it321 444) = (oB (oP (oT (some s) (mF (it0 (a1 + 1) a2.toNatClampNeg))) (oT (some t) (mF (it0 (a1 + 1) a3.toNatClampNeg)))) (mF ((it0 (a1 + 1) a2.toNatClampNeg) + (it0 (a1 + 1) a3.toNatClampNeg)))) := by rw [em_lg320, em_it321, fv_ne (by omega)]; exact T311
  have T327 : abF (fv lg320 it321 443) = (qF (it0 a1 4)) := by rw [em_lg320, em_it321, fv_ne (by omega)]; exact T312
  have T328 : abF (fv lg320 it321 449) = (mF ((it0 (a1 + 1) a2.toNatClampNeg) + (it0 (a1 + 1) a3.toNatClampNeg))) := by rw [em_lg320, em_it321, fv_ne (by omega)]; exact T313
  have T329 : abF (fv lg320 it321 448) = (mF (it0 (a1 + 1) a3.toNatClampNeg)) := by rw [em_lg320, em_it321, fv_ne (by omega)]; exact T314
  have T330 : abF (fv lg320 it321 447) = (mF (it0 (a1 + 1) a2.toNatClampNeg)) := by rw [em_lg320, em_it321, fv_ne (by omega)]; exact T315
  have T331 : abF (fv lg320 it321 (a1 + 5 + 2 * a2.toNatClampNeg)) = (some s) := by rw [em_lg320, em_it321, fv_ne (by omega)]; exact T316
  have T332 : abF (fv lg320 it321 (a1 + 5 + 2 * a3.toNatClampNeg)) = (some t) := by rw [em_lg320, em_it321, fv_ne (by omega)]; exact T317
  try have e333 : (it321 a1 4).toInt = (it306 a1 4).toInt := by rw [em_it321]; exact congrArg Int32.toInt (congrFun (u2_row (by omega)) 4)
  have hc336 : it321 444 2 &&& 1 = it321 444 2 := ib (i8_1 hI322 (oq_444))
  refine ⟨hc336, ?_⟩
  intro lg334 em_lg334 it335 em_it335
  have hI337 : I8 lg334 it335 := by rw [em_it335]; exact i8_u hI322 (ok8_1 ((rpo5 ha1 (vlt (hi113)))) (fun _ => i8_1 hI322 (oq_444)))
  have hK338 : Kc (fun j => (443 ≤ j ∧ j < 450) ∨ (a1 + 5 + 2 * a2.toNatClampNeg ≤ j ∧ j < a1 + 6 + 2 * a2.toNatClampNeg) ∨ (a1 + 5 + 2 * a3.toNatClampNeg ≤ j ∧ j < a1 + 6 + 2 * a3.toNatClampNeg)) lg0 it0 lg334 it335 := by rw [em_lg334, em_it335]; exact kc_f (by first | omega | (dsimp only; omega)) hK323
  have T339 : abF (fv lg334 it335 (a1 + 5 + 2 * a2.toNatClampNeg)) = (oB (oP (oT (some s) (mF (it0 (a1 + 1) a2.toNatClampNeg))) (oT (some t) (mF (it0 (a1 + 1) a3.toNatClampNeg)))) (mF ((it0 (a1 + 1) a2.toNatClampNeg) + (it0 (a1 + 1) a3.toNatClampNeg)))) := by rw [em_lg334, em_it335]; exact (congrArg abF fv_a3).trans T326
  have T340 : abF (fv lg334 it335 446) = (oB (oT (oT (oL (some s) (some t)) (qF (it0 a1 4))) (mF (it0 (a1 + 1) a3.toNatClampNeg))) (mF ((it0 (a1 + 1) a2.toNatClampNeg) + (it0 (a1 + 1) a3.toNatClampNeg)))) := by rw [em_lg334, em_it335, fv_ne (by omega)]; exact T324
  have T341 : abF (fv lg334 it335 445) = (oT (oL (some s) (some t)) (qF (it0 a1 4))) := by rw [em_lg334, em_it335, fv_ne (by omega)]; exact T325
  have T342 : abF (fv lg334 it335 444) = (oB (oP (oT (some s) (mF (it0 (a1 + 1) a2.toNatClampNeg))) (oT (some t) (mF (it0 (a1 + 1) a3.toNatClampNeg)))) (mF ((it0 (a1 + 1) a2.toNatClampNeg) + (it0 (a1 + 1) a3.toNatClampNeg)))) := by rw [em_lg334, em_it335, fv_ne (by omega)]; exact T326
  have T343 : abF (fv lg334 it335 443) = (qF (it0 a1 4)) := by rw [em_lg334, em_it335, fv_ne (by omega)]; exact T327
  have T344 : abF (fv lg334 it335 449) = (mF ((it0 (a1 + 1) a2.toNatClampNeg) + (it0 (a1 + 1) a3.toNatClampNeg))) := by rw [em_lg334, em_it335, fv_ne (by omega)]; exact T328
  have T345 : abF (fv lg334 it335 448) = (mF (it0 (a1 + 1) a3.toNatClampNeg)) := by rw [em_lg334, em_it335, fv_ne (by omega)]; exact T329
  have T346 : abF (fv lg334 it335 447) = (mF (it0 (a1 + 1) a2.toNatClampNeg)) := by rw [em_lg334, em_it335, fv_ne (by omega)]; exact T330
  have T347 : abF (fv lg334 it335 (a1 + 5 + 2 * a3.toNatClampNeg)) = (some t) := by rw [em_lg334, em_it335, fv_ne (by omega)]; exact T332
  try have e348 : (it335 a1 4).toInt = (it321 a1 4).toInt := by rw [em_it335]; exact congrArg Int32.toInt (congrFun (u2_row (by omega)) 4)
  intro q349 em_q349 lg350 em_lg350 it351 em_it351
  have hI352 : I8 lg350 it351 := by rw [em_it351]; exact i8_u hI337 (ok8_1 ((rpo5 ha1 (vlt (hi113)))) (fun _ => by rw [em_q349]; exact stF_01 _ _ _ _ _))
  have hK353 : Kc (fun j => (443 ≤ j ∧ j < 450) ∨ (a1 + 5 + 2 * a2.toNatClampNeg ≤ j ∧ j < a1 + 6 + 2 * a2.toNatClampNeg) ∨ (a1 + 5 + 2 * a3.toNatClampNeg ≤ j ∧ j < a1 + 6 + 2 * a3.toNatClampNeg)) lg0 it0 lg350 it351 := by rw [em_lg350, em_it351]; exact kc_f (by first | omega | (dsimp only; omega)) hK338
  have T354 : abF (fv lg350 it351 (a1 + 5 + 2 * a2.toNatClampNeg)) = (oL (oB (oP (oT (some s) (mF (it0 (a1 + 1) a2.toNatClampNeg))) (oT (some t) (mF (it0 (a1 + 1) a3.toNatClampNeg)))) (mF ((it0 (a1 + 1) a2.toNatClampNeg) + (it0 (a1 + 1) a3.toNatClampNeg)))) (oB (oT (oT (oL (some s) (some t)) (qF (it0 a1 4))) (mF (it0 (a1 + 1) a3.toNatClampNeg))) (mF ((it0 (a1 + 1) a2.toNatClampNeg) + (it0 (a1 + 1) a3.toNatClampNeg))))) := by rw [em_lg350, em_it351, fv_at, em_q349, ab_l, T339, T340]
  have T355 : abF (fv lg350 it351 446) = (oB (oT (oT (oL (some s) (some t)) (qF (it0 a1 4))) (mF (it0 (a1 + 1) a3.toNatClampNeg))) (mF ((it0 (a1 + 1) a2.toNatClampNeg) + (it0 (a1 + 1) a3.toNatClampNeg)))) := by rw [em_lg350, em_it351, fv_ne (by omega)]; exact T340
  have T356 : abF (fv lg350 it351 445) = (oT (oL (some s) (some t)) (qF (it0 a1 4))) := by rw [em_lg350, em_it351, fv_ne (by omega)]; exact T341
  have T357 : abF (fv lg350 it351 444) = (oB (oP (oT (some s) (mF (it0 (a1 + 1) a2.toNatClampNeg))) (oT (some t) (mF (it0 (a1 + 1) a3.toNatClampNeg)))) (mF ((it0 (a1 + 1) a2.toNatClampNeg) + (it0 (a1 + 1) a3.toNatClampNeg)))) := by rw [em_lg350, em_it351, fv_ne (by omega)]; exact T342
  have T358 : abF (fv lg350 it351 443) = (qF (it0 a1 4)) := by rw [em_lg350, em_it351, fv_ne (by omega)]; exact T343
  have T359 : abF (fv lg350 it351 449) = (mF ((it0 (a1 + 1) a2.toNatClampNeg) + (it0 (a1 + 1) a3.toNatClampNeg))) := by rw [em_lg350, em_it351, fv_ne (by omega)]; exact T344
  have T360 : abF (fv lg350 it351 448) = (mF (it0 (a1 + 1) a3.toNatClampNeg)) := by rw [em_lg350, em_it351, fv_ne (by omega)]; exact T345
  have T361 : abF (fv lg350 it351 447) = (mF (it0 (a1 + 1) a2.toNatClampNeg)) := by rw [em_lg350, em_it351, fv_ne (by omega)]; exact T346
  have T362 : abF (fv lg350 it351 (a1 + 5 + 2 * a3.toNatClampNeg)) = (some t) := by rw [em_lg350, em_it351, fv_ne (by omega)]; exact T347
  try have e363 : (it351 a1 4).toInt = (it335 a1 4).toInt := by rw [em_it351]; exact congrArg Int32.toInt (congrFun (u2_row (by omega)) 4)
  have hc366 : it351 445 2 &&& 1 = it351 445 2 := ib (i8_1 hI352 (oq_445))
  refine ⟨hc366, ?_⟩
  intro lg364 em_lg364 it365 em_it365
  have hI367 : I8 lg364 it365 := by rw [em_it365]; exact i8_u hI352 (ok8_1 (oq_446) (fun _ => i8_1 hI352 (oq_445)))
  have hK368 : Kc (fun j => (443 ≤ j ∧ j < 450) ∨ (a1 + 5 + 2 * a2.toNatClampNeg ≤ j ∧ j < a1 + 6 + 2 * a2.toNatClampNeg) ∨ (a1 + 5 + 2 * a3.toNatClampNeg ≤ j ∧ j < a1 + 6 + 2 * a3.toNatClampNeg)) lg0 it0 lg364 it365 := by rw [em_lg364, em_it365]; exact kc_f (by first | omega | (dsimp only; omega)) hK353
  have T369 : abF (fv lg364 it365 446) = (oT (oL (some s) (some t)) (qF (it0 a1 4))) := by rw [em_lg364, em_it365]; exact (congrArg abF fv_a3).trans T356
  have T370 : abF (fv lg364 it365 (a1 + 5 + 2 * a2.toNatClampNeg)) = (oL (oB (oP (oT (some s) (mF (it0 (a1 + 1) a2.toNatClampNeg))) (oT (some t) (mF (it0 (a1 + 1) a3.toNatClampNeg)))) (mF ((it0 (a1 + 1) a2.toNatClampNeg) + (it0 (a1 + 1) a3.toNatClampNeg)))) (oB (oT (oT (oL (some s) (some t)) (qF (it0 a1 4))) (mF (it0 (a1 + 1) a3.toNatClampNeg))) (mF ((it0 (a1 + 1) a2.toNatClampNeg) + (it0 (a1 + 1) a3.toNatClampNeg))))) := by rw [em_lg364, em_it365, fv_ne (by omega)]; exact T354
  have T371 : abF (fv lg364 it365 445) = (oT (oL (some s) (some t)) (qF (it0 a1 4))) := by rw [em_lg364, em_it365, fv_ne (by omega)]; exact T356
  have T372 : abF (fv lg364 it365 444) = (oB (oP (oT (some s) (mF (it0 (a1 + 1) a2.toNatClampNeg))) (oT (some t) (mF (it0 (a1 + 1) a3.toNatClampNeg)))) (mF ((it0 (a1 + 1) a2.toNatClampNeg) + (it0 (a1 + 1) a3.toNatClampNeg)))) := by rw [em_lg364, em_it365, fv_ne (by omega)]; exact T357
  have T373 : abF (fv lg364 it365 443) = (qF (it0 a1 4)) := by rw [em_lg364, em_it365, fv_ne (by omega)]; exact T358
  have T374 : abF (fv lg364 it365 449) = (mF ((it0 (a1 + 1) a2.toNatClampNeg) + (it0 (a1 + 1) a3.toNatClampNeg))) := by rw [em_lg364, em_it365, fv_ne (by omega)]; exact T359
  have T375 : abF (fv lg364 it365 448) = (mF (it0 (a1 + 1) a3.toNatClampNeg)) := by rw [em_lg364, em_it365, fv_ne (by omega)]; exact T360
  have T376 : abF (fv lg364 it365 447) = (mF (it0 (a1 + 1) a2.toNatClampNeg)) := by rw [em_lg364, em_it365, fv_ne (by omega)]; exact T361
  have T377 : abF (fv lg364 it365 (a1 + 5 + 2 * a3.toNatClampNeg)) = (some t) := by rw [em_lg364, em_it365, fv_ne (by omega)]; exact T362
  try have e378 : (it365 a1 4).toInt = (it351 a1 4).toInt := by rw [em_it365]; exact congrArg Int32.toInt (congrFun (u2_row (by omega)) 4)
  intro q379 em_q379 lg380 em_lg380 it381 em_it381
  have hI382 : I8 lg380 it381 := by rw [em_it381]; exact i8_u hI367 (ok8_1 (oq_446) (fun _ => by rw [em_q379]; exact stF_01 _ _ _ _ _))
  have hK383 : Kc (fun j => (443 ≤ j ∧ j < 450) ∨ (a1 + 5 + 2 * a2.toNatClampNeg ≤ j ∧ j < a1 + 6 + 2 * a2.toNatClampNeg) ∨ (a1 + 5 + 2 * a3.toNatClampNeg ≤ j ∧ j < a1 + 6 + 2 * a3.toNatClampNeg)) lg0 it0 lg380 it381 := by rw [em_lg380, em_it381]; exact kc_f (by first | omega | (dsimp only; omega)) hK368
  have T384 : abF (fv lg380 it381 446) = (oT (oT (oL (some s) (some t)) (qF (it0 a1 4))) (mF (it0 (a1 + 1) a2.toNatClampNeg))) := by rw [em_lg380, em_it381, fv_at, em_q379, ab_t, T369, T376]
  have T385 : abF (fv lg380 it381 (a1 + 5 + 2 * a2.toNatClampNeg)) = (oL (oB (oP (oT (some s) (mF (it0 (a1 + 1) a2.toNatClampNeg))) (oT (some t) (mF (it0 (a1 + 1) a3.toNatClampNeg)))) (mF ((it0 (a1 + 1) a2.toNatClampNeg) + (it0 (a1 + 1) a3.toNatClampNeg)))) (oB (oT (oT (oL (some s) (some t)) (qF (it0 a1 4))) (mF (it0 (a1 + 1) a3.toNatClampNeg))) (mF ((it0 (a1 + 1) a2.toNatClampNeg) + (it0 (a1 + 1) a3.toNatClampNeg))))) := by rw [em_lg380, em_it381, fv_ne (by omega)]; exact T370
  have T386 : abF (fv lg380 it381 445) = (oT (oL (some s) (some t)) (qF (it0 a1 4))) := by rw [em_lg380, em_it381, fv_ne (by omega)]; exact T371
  have T387 : abF (fv lg380 it381 444) = (oB (oP (oT (some s) (mF (it0 (a1 + 1) a2.toNatClampNeg))) (oT (some t) (mF (it0 (a1 + 1) a3.toNatClampNeg)))) (mF ((it0 (a1 + 1) a2.toNatClampNeg) + (it0 (a1 + 1) a3.toNatClampNeg)))) := by rw [em_lg380, em_it381, fv_ne (by omega)]; exact T372
  have T388 : abF (fv lg380 it381 443) = (qF (it0 a1 4)) := by rw [em_lg380, em_it381, fv_ne (by omega)]; exact T373
  have T389 : abF (fv lg380 it381 449) = (mF ((it0 (a1 + 1) a2.toNatClampNeg) + (it0 (a1 + 1) a3.toNatClampNeg))) := by rw [em_lg380, em_it381, fv_ne (by omega)]; exact T374
  have T390 : abF (fv lg380 it381 448) = (mF (it0 (a1 + 1) a3.toNatClampNeg)) := by rw [em_lg380, em_it381, fv_ne (by omega)]; exact T375
  have T391 : abF (fv lg380 it381 447) = (mF (it0 (a1 + 1) a2.toNatClampNeg)) := by rw [em_lg380, em_it381, fv_ne (by omega)]; exact T376
  have T392 : abF (fv lg380 it381 (a1 + 5 + 2 * a3.toNatClampNeg)) = (some t) := by rw [em_lg380, em_it381, fv_ne (by omega)]; exact T377
  try have e393 : (it381 a1 4).toInt = (it365 a1 4).toInt := by rw [em_it381]; exact congrArg Int32.toInt (congrFun (u2_row (by omega)) 4)
  intro q394 em_q394 lg395 em_lg395 it396 em_it396
  have hI397 : I8 lg395 it396 := by rw [em_it396]; exact i8_u hI382 (ok8_1 (oq_446) (fun _ => by rw [em_q394]; exact stF_01 _ _ _ _ _))
  have hK398 : Kc (fun j => (443 ≤ j ∧ j < 450) ∨ (a1 + 5 + 2 * a2.toNatClampNeg ≤ j ∧ j < a1 + 6 + 2 * a2.toNatClampNeg) ∨ (a1 + 5 + 2 * a3.toNatClampNeg ≤ j ∧ j < a1 + 6 + 2 * a3.toNatClampNeg)) lg0 it0 lg395 it396 := by rw [em_lg395, em_it396]; exact kc_f (by first | omega | (dsimp only; omega)) hK383
  have T399 : abF (fv lg395 it396 446) = (oB (oT (oT (oL (some s) (some t)) (qF (it0 a1 4))) (mF (it0 (a1 + 1) a2.toNatClampNeg))) (mF ((it0 (a1 + 1) a2.toNatClampNeg) + (it0 (a1 + 1) a3.toNatClampNeg)))) := by rw [em_lg395, em_it396, fv_at, em_q394, ab_b, T384, T389]
  have T400 : abF (fv lg395 it396 (a1 + 5 + 2 * a2.toNatClampNeg)) = (oL (oB (oP (oT (some s) (mF (it0 (a1 + 1) a2.toNatClampNeg))) (oT (some t) (mF (it0 (a1 + 1) a3.toNatClampNeg)))) (mF ((it0 (a1 + 1) a2.toNatClampNeg) + (it0 (a1 + 1) a3.toNatClampNeg)))) (oB (oT (oT (oL (some s) (some t)) (qF (it0 a1 4))) (mF (it0 (a1 + 1) a3.toNatClampNeg))) (mF ((it0 (a1 + 1) a2.toNatClampNeg) + (it0 (a1 + 1) a3.toNatClampNeg))))) := by rw [em_lg395, em_it396, fv_ne (by omega)]; exact T385
  have T401 : abF (fv lg395 it396 445) = (oT (oL (some s) (some t)) (qF (it0 a1 4))) := by rw [em_lg395, em_it396, fv_ne (by omega)]; exact T386
  have T402 : abF (fv lg395 it396 444) = (oB (oP (oT (some s) (mF (it0 (a1 + 1) a2.toNatClampNeg))) (oT (some t) (mF (it0 (a1 + 1) a3.toNatClampNeg)))) (mF ((it0 (a1 + 1) a2.toNatClampNeg) + (it0 (a1 + 1) a3.toNatClampNeg)))) := by rw [em_lg395, em_it396, fv_ne (by omega)]; exact T387
  have T403 : abF (fv lg395 it396 443) = (qF (it0 a1 4)) := by rw [em_lg395, em_it396, fv_ne (by omega)]; exact T388
  have T404 : abF (fv lg395 it396 449) = (mF ((it0 (a1 + 1) a2.toNatClampNeg) + (it0 (a1 + 1) a3.toNatClampNeg))) := by rw [em_lg395, em_it396, fv_ne (by omega)]; exact T389
  have T405 : abF (fv lg395 it396 448) = (mF (it0 (a1 + 1) a3.toNatClampNeg)) := by rw [em_lg395, em_it396, fv_ne (by omega)]; exact T390
  have T406 : abF (fv lg395 it396 447) = (mF (it0 (a1 + 1) a2.toNatClampNeg)) := by rw [em_lg395, em_it396, fv_ne (by omega)]; exact T391
  have T407 : abF (fv lg395 it396 (a1 + 5 + 2 * a3.toNatClampNeg)) = (some t) := by rw [em_lg395, em_it396, fv_ne (by omega)]; exact T392
  try have e408 : (it396 a1 4).toInt = (it381 a1 4).toInt := by rw [em_it396]; exact congrArg Int32.toInt (congrFun (u2_row (by omega)) 4)
  have hc411 : it396 444 2 &&& 1 = it396 444 2 := ib (i8_1 hI397 (oq_444))
  refine ⟨hc411, ?_⟩
  intro lg409 em_lg409 it410 em_it410
  have hI412 : I8 lg409 it410 := by rw [em_it410]; exact i8_u hI397 (ok8_1 ((rpo5 ha1 (vlt (hi115)))) (fun _ => i8_1 hI397 (oq_444)))
  have hK413 : Kc (fun j => (443 ≤ j ∧ j < 450) ∨ (a1 + 5 + 2 * a2.toNatClampNeg ≤ j ∧ j < a1 + 6 + 2 * a2.toNatClampNeg) ∨ (a1 + 5 + 2 * a3.toNatClampNeg ≤ j ∧ j < a1 + 6 + 2 * a3.toNatClampNeg)) lg0 it0 lg409 it410 := by rw [em_lg409, em_it410]; exact kc_f (by first | omega | (dsimp only; omega)) hK398
  have T414 : abF (fv lg409 it410 (a1 + 5 + 2 * a3.toNatClampNeg)) = (oB (oP (oT (some s) (mF (it0 (a1 + 1) a2.toNatClampNeg))) (oT (some t) (mF (it0 (a1 + 1) a3.toNatClampNeg)))) (mF ((it0 (a1 + 1) a2.toNatClampNeg) + (it0 (a1 + 1) a3.toNatClampNeg)))) := by rw [em_lg409, em_it410]; exact (congrArg abF fv_a3).trans T402
  have T415 : abF (fv lg409 it410 446) = (oB (oT (oT (oL (some s) (some t)) (qF (it0 a1 4))) (mF (it0 (a1 + 1) a2.toNatClampNeg))) (mF ((it0 (a1 + 1) a2.toNatClampNeg) + (it0 (a1 + 1) a3.toNatClampNeg)))) := by rw [em_lg409, em_it410, fv_ne (by omega)]; exact T399
  have T416 : abF (fv lg409 it410 (a1 + 5 + 2 * a2.toNatClampNeg)) = (oL (oB (oP (oT (some s) (mF (it0 (a1 + 1) a2.toNatClampNeg))) (oT (some t) (mF (it0 (a1 + 1) a3.toNatClampNeg)))) (mF ((it0 (a1 + 1) a2.toNatClampNeg) + (it0 (a1 + 1) a3.toNatClampNeg)))) (oB (oT (oT (oL (some s) (some t)) (qF (it0 a1 4))) (mF (it0 (a1 + 1) a3.toNatClampNeg))) (mF ((it0 (a1 + 1) a2.toNatClampNeg) + (it0 (a1 + 1) a3.toNatClampNeg))))) := by rw [em_lg409, em_it410, fv_ne (by omega)]; exact T400
  have T417 : abF (fv lg409 it410 445) = (oT (oL (some s) (some t)) (qF (it0 a1 4))) := by rw [em_lg409, em_it410, fv_ne (by omega)]; exact T401
  have T418 : abF (fv lg409 it410 444) = (oB (oP (oT (some s) (mF (it0 (a1 + 1) a2.toNatClampNeg))) (oT (some t) (mF (it0 (a1 + 1) a3.toNatClampNeg)))) (mF ((it0 (a1 + 1) a2.toNatClampNeg) + (it0 (a1 + 1) a3.toNatClampNeg)))) := by rw [em_lg409, em_it410, fv_ne (by omega)]; exact T402
  have T419 : abF (fv lg409 it410 443) = (qF (it0 a1 4)) := by rw [em_lg409, em_it410, fv_ne (by omega)]; exact T403
  have T420 : abF (fv lg409 it410 449) = (mF ((it0 (a1 + 1) a2.toNatClampNeg) + (it0 (a1 + 1) a3.toNatClampNeg))) := by rw [em_lg409, em_it410, fv_ne (by omega)]; exact T404
  have T421 : abF (fv lg409 it410 448) = (mF (it0 (a1 + 1) a3.toNatClampNeg)) := by rw [em_lg409, em_it410, fv_ne (by omega)]; exact T405
  have T422 : abF (fv lg409 it410 447) = (mF (it0 (a1 + 1) a2.toNatClampNeg)) := by rw [em_lg409, em_it410, fv_ne (by omega)]; exact T406
  try have e423 : (it410 a1 4).toInt = (it396 a1 4).toInt := by rw [em_it410]; exact congrArg Int32.toInt (congrFun (u2_row (by omega)) 4)
  intro q424 em_q424 lg425 em_lg425 it426 em_it426
  have hI427 : I8 lg425 it426 := by rw [em_it426]; exact i8_u hI412 (ok8_1 ((rpo5 ha1 (vlt (hi115)))) (fun _ => by rw [em_q424]; exact stF_01 _ _ _ _ _))
  have hK428 : Kc (fun j => (443 ≤ j ∧ j < 450) ∨ (a1 + 5 + 2 * a2.toNatClampNeg ≤ j ∧ j < a1 + 6 + 2 * a2.toNatClampNeg) ∨ (a1 + 5 + 2 * a3.toNatClampNeg ≤ j ∧ j < a1 + 6 + 2 * a3.toNatClampNeg)) lg0 it0 lg425 it426 := by rw [em_lg425, em_it426]; exact kc_f (by first | omega | (dsimp only; omega)) hK413
  have T429 : abF (fv lg425 it426 (a1 + 5 + 2 * a3.toNatClampNeg)) = (oP (oB (oP (oT (some s) (mF (it0 (a1 + 1) a2.toNatClampNeg))) (oT (some t) (mF (it0 (a1 + 1) a3.toNatClampNeg)))) (mF ((it0 (a1 + 1) a2.toNatClampNeg) + (it0 (a1 + 1) a3.toNatClampNeg)))) (oB (oT (oT (oL (some s) (some t)) (qF (it0 a1 4))) (mF (it0 (a1 + 1) a2.toNatClampNeg))) (mF ((it0 (a1 + 1) a2.toNatClampNeg) + (it0 (a1 + 1) a3.toNatClampNeg))))) := by rw [em_lg425, em_it426, fv_at, em_q424, ab_p, T414, T415]
  have T430 : abF (fv lg425 it426 446) = (oB (oT (oT (oL (some s) (some t)) (qF (it0 a1 4))) (mF (it0 (a1 + 1) a2.toNatClampNeg))) (mF ((it0 (a1 + 1) a2.toNatClampNeg) + (it0 (a1 + 1) a3.toNatClampNeg)))) := by rw [em_lg425, em_it426, fv_ne (by omega)]; exact T415
  have T431 : abF (fv lg425 it426 (a1 + 5 + 2 * a2.toNatClampNeg)) = (oL (oB (oP (oT (some s) (mF (it0 (a1 + 1) a2.toNatClampNeg))) (oT (some t) (mF (it0 (a1 + 1) a3.toNatClampNeg)))) (mF ((it0 (a1 + 1) a2.toNatClampNeg) + (it0 (a1 + 1) a3.toNatClampNeg)))) (oB (oT (oT (oL (some s) (some t)) (qF (it0 a1 4))) (mF (it0 (a1 + 1) a3.toNatClampNeg))) (mF ((it0 (a1 + 1) a2.toNatClampNeg) + (it0 (a1 + 1) a3.toNatClampNeg))))) := by rw [em_lg425, em_it426, fv_ne (by omega)]; exact T416
  have T432 : abF (fv lg425 it426 445) = (oT (oL (some s) (some t)) (qF (it0 a1 4))) := by rw [em_lg425, em_it426, fv_ne (by omega)]; exact T417
  have T433 : abF (fv lg425 it426 444) = (oB (oP (oT (some s) (mF (it0 (a1 + 1) a2.toNatClampNeg))) (oT (some t) (mF (it0 (a1 + 1) a3.toNatClampNeg)))) (mF ((it0 (a1 + 1) a2.toNatClampNeg) + (it0 (a1 + 1) a3.toNatClampNeg)))) := by rw [em_lg425, em_it426, fv_ne (by omega)]; exact T418
  have T434 : abF (fv lg425 it426 443) = (qF (it0 a1 4)) := by rw [em_lg425, em_it426, fv_ne (by omega)]; exact T419
  have T435 : abF (fv lg425 it426 449) = (mF ((it0 (a1 + 1) a2.toNatClampNeg) + (it0 (a1 + 1) a3.toNatClampNeg))) := by rw [em_lg425, em_it426, fv_ne (by omega)]; exact T420
  have T436 : abF (fv lg425 it426 448) = (mF (it0 (a1 + 1) a3.toNatClampNeg)) := by rw [em_lg425, em_it426, fv_ne (by omega)]; exact T421
  have T437 : abF (fv lg425 it426 447) = (mF (it0 (a1 + 1) a2.toNatClampNeg)) := by rw [em_lg425, em_it426, fv_ne (by omega)]; exact T422
  try have e438 : (it426 a1 4).toInt = (it410 a1 4).toInt := by rw [em_it426]; exact congrArg Int32.toInt (congrFun (u2_row (by omega)) 4)
  refine ⟨fun c278 => ?_, fun c278 => ?_⟩
  · try simp only [Int32.lt_iff_toInt_lt, Int32.le_iff_toInt_le, ← Int32.toInt_inj, Int32.toInt_toInt64, ti_m14, ti_m13, ti_m12, ti_m11, ti_m10, ti_m9, ti_m6, ti_m5, ti_m4, ti_m3, ti_m2, ti_m1, ti_0, ti_1, ti_2, ti_3, ti_4, ti_5, ti_6, ti_7, ti_8, ti_9, ti_10, ti_11, ti_12, ti_19, ti_20, ti_21, ti_44, ti_45, ti_48, ti_57, ti_59, ti_60, ti_98, ti_99, ti_100, ti_101, ti_103, ti_108, ti_110, ti_114, ti_127] at c278
    subst hp
    exact ⟨⟨hI427, hK428⟩, ⟨T431, T429, Or.inr ⟨rfl, Or.inl (tno T431 c278)⟩⟩⟩
  · try simp only [Int32.lt_iff_toInt_lt, Int32.le_iff_toInt_le, ← Int32.toInt_inj, Int32.toInt_toInt64, ti_m14, ti_m13, ti_m12, ti_m11, ti_m10, ti_m9, ti_m6, ti_m5, ti_m4, ti_m3, ti_m2, ti_m1, ti_0, ti_1, ti_2, ti_3, ti_4, ti_5, ti_6, ti_7, ti_8, ti_9, ti_10, ti_11, ti_12, ti_19, ti_20, ti_21, ti_44, ti_45, ti_48, ti_57, ti_59, ti_60, ti_98, ti_99, ti_100, ti_101, ti_103, ti_108, ti_110, ti_114, ti_127] at c278
    refine ⟨fun c286 => ?_, fun c286 => ?_⟩
    · try simp only [Int32.lt_iff_toInt_lt, Int32.le_iff_toInt_le, ← Int32.toInt_inj, Int32.toInt_toInt64, ti_m14, ti_m13, ti_m12, ti_m11, ti_m10, ti_m9, ti_m6, ti_m5, ti_m4, ti_m3, ti_m2, ti_m1, ti_0, ti_1, ti_2, ti_3, ti_4, ti_5, ti_6, ti_7, ti_8, ti_9, ti_10, ti_11, ti_12, ti_19, ti_20, ti_21, ti_44, ti_45, ti_48, ti_57, ti_59, ti_60, ti_98, ti_99, ti_100, ti_101, ti_103, ti_108, ti_110, ti_114, ti_127] at c286
      subst hp
      exact ⟨⟨hI427, hK428⟩, ⟨T431, T429, Or.inr ⟨rfl, Or.inr (tno T429 c286)⟩⟩⟩
    · try simp only [Int32.lt_iff_toInt_lt, Int32.le_iff_toInt_le, ← Int32.toInt_inj, Int32.toInt_toInt64, ti_m14, ti_m13, ti_m12, ti_m11, ti_m10, ti_m9, ti_m6, ti_m5, ti_m4, ti_m3, ti_m2, ti_m1, ti_0, ti_1, ti_2, ti_3, ti_4, ti_5, ti_6, ti_7, ti_8, ti_9, ti_10, ti_11, ti_12, ti_19, ti_20, ti_21, ti_44, ti_45, ti_48, ti_57, ti_59, ti_60, ti_98, ti_99, ti_100, ti_101, ti_103, ti_108, ti_110, ti_114, ti_127] at c286
      subst hp
      exact ⟨⟨hI427, hK428⟩, ⟨T431, T429, Or.inl ⟨rfl, by rw [show pL1 s t (it0 (a1 + 1) a2.toNatClampNeg) (it0 (a1 + 1) a3.toNatClampNeg) (it0 a1 4) = _ from tsm T431 c278]; rfl, by rw [show pL2 s t (it0 (a1 + 1) a2.toNatClampNeg) (it0 (a1 + 1) a3.toNatClampNeg) (it0 a1 4) = _ from tsm T429 c286]; rfl⟩⟩⟩
