/-! the class is safe: the striker, the course -/
set_option maxRecDepth 100000 in
theorem s_X5_reckon {a1 : Nat} (ha1 : a1 ∈ rb) (a2 : Int32) {lg0 : LGt} {it0 : ITt} (hI : I8 lg0 it0) (hb : 0 ≤ a2.toInt ∧ a2.toInt ≤ (it0 a1 0).toInt) : w_X5_reckon a1 a2 (fun (v : Int32) (lg' : LGt) (it' : ITt) => (I8 lg' it' ∧ Kc (fun j => (437 ≤ j ∧ j < 450)) lg0 it0 lg' it') ∧ (v = 0 ∨ v = 1))  lg0 it0 := by
  have hb_a2 := And.intro a2.le_toInt a2.toInt_lt
  have hKr : Kc (fun j => (437 ≤ j ∧ j < 450)) lg0 it0 lg0 it0 := kc_r
  generalize hp : (fun (v : Int32) (lg' : LGt) (it' : ITt) => (I8 lg' it' ∧ Kc (fun j => (437 ≤ j ∧ j < 450)) lg0 it0 lg' it') ∧ (v = 0 ∨ v = 1)) = Pz
  unfold w_X5_reckon
  refine ⟨fun c1 => ?_, fun c1 => ?_⟩
  · try simp only [Int32.lt_iff_toInt_lt, Int32.le_iff_toInt_le, ← Int32.toInt_inj, Int32.toInt_toInt64, ti_m14, ti_m13, ti_m12, ti_m11, ti_m10, ti_m9, ti_m6, ti_m5, ti_m4, ti_m3, ti_m2, ti_m1, ti_0, ti_1, ti_2, ti_3, ti_4, ti_5, ti_6, ti_7, ti_8, ti_9, ti_10, ti_11, ti_12, ti_19, ti_20, ti_21, ti_44, ti_45, ti_48, ti_57, ti_59, ti_60, ti_98, ti_99, ti_100, ti_101, ti_103, ti_108, ti_110, ti_114, ti_127] at c1
    have f87 : 0 ≤ (it0 a1 0).toInt ∧ (it0 a1 0).toInt ≤ 6 := i8_3 hI (obr ha1)
    refine ⟨fun c72 => ?_, fun c72 => ?_⟩
    · try simp only [Int32.lt_iff_toInt_lt, Int32.le_iff_toInt_le, ← Int32.toInt_inj, Int32.toInt_toInt64, ti_m14, ti_m13, ti_m12, ti_m11, ti_m10, ti_m9, ti_m6, ti_m5, ti_m4, ti_m3, ti_m2, ti_m1, ti_0, ti_1, ti_2, ti_3, ti_4, ti_5, ti_6, ti_7, ti_8, ti_9, ti_10, ti_11, ti_12, ti_19, ti_20, ti_21, ti_44, ti_45, ti_48, ti_57, ti_59, ti_60, ti_98, ti_99, ti_100, ti_101, ti_103, ti_108, ti_110, ti_114, ti_127] at c72
      try have f88 : ((a2 - 1) : Int32).toInt = (a2).toInt - 1 := sb32 (a := (a2).toInt) (b := 1) (rfl) (ti_1) (by omega) (by omega)
      have hi89 : vp_in (a2 - 1) 6 := vp_of (by first | omega | ((try simp only [Int32.lt_iff_toInt_lt, Int32.le_iff_toInt_le, ← Int32.toInt_inj, Int32.toInt_toInt64, ti_m14, ti_m13, ti_m12, ti_m11, ti_m10, ti_m9, ti_m6, ti_m5, ti_m4, ti_m3, ti_m2, ti_m1, ti_0, ti_1, ti_2, ti_3, ti_4, ti_5, ti_6, ti_7, ti_8, ti_9, ti_10, ti_11, ti_12, ti_19, ti_20, ti_21, ti_44, ti_45, ti_48, ti_57, ti_59, ti_60, ti_98, ti_99, ti_100, ti_101, ti_103, ti_108, ti_110, ti_114, ti_127]); omega) | (split <;> omega)) (by first | omega | ((try simp only [Int32.lt_iff_toInt_lt, Int32.le_iff_toInt_le, ← Int32.toInt_inj, Int32.toInt_toInt64, ti_m14, ti_m13, ti_m12, ti_m11, ti_m10, ti_m9, ti_m6, ti_m5, ti_m4, ti_m3, ti_m2, ti_m1, ti_0, ti_1, ti_2, ti_3, ti_4, ti_5, ti_6, ti_7, ti_8, ti_9, ti_10, ti_11, ti_12, ti_19, ti_20, ti_21, ti_44, ti_45, ti_48, ti_57, ti_59, ti_60, ti_98, ti_99, ti_100, ti_101, ti_103, ti_108, ti_110, ti_114, ti_127]); omega) | (split <;> omega))
      refine ⟨hi89, ?_⟩
      have hz90 := vlt hi89
      have hc93 : it0 (a1 + 5 + 2 * (a2 - 1).toNatClampNeg) 2 &&& 1 = it0 (a1 + 5 + 2 * (a2 - 1).toNatClampNeg) 2 := ib (i8_1 hI ((rpo5 ha1 (vlt (hi89)))))
      refine ⟨hc93, ?_⟩
      intro lg91 em_lg91 it92 em_it92
      have hI94 : I8 lg91 it92 := by rw [em_it92]; exact i8_u hI (ok8_1 (oq_440) (fun _ => i8_1 hI ((rpo5 ha1 (vlt (hi89))))))
      have hK95 : Kc (fun j => (437 ≤ j ∧ j < 450)) lg0 it0 lg91 it92 := by rw [em_lg91, em_it92]; exact kc_f (by first | omega | (dsimp only; omega)) hKr
      try have e96 : (it92 a1 0).toInt = (it0 a1 0).toInt := by rw [em_it92]; exact congrArg Int32.toInt (congrFun (u2_row (by omega)) 0)
      have hi97 : vp_in a2 6 := vp_of (by first | omega | ((try simp only [Int32.lt_iff_toInt_lt, Int32.le_iff_toInt_le, ← Int32.toInt_inj, Int32.toInt_toInt64, ti_m14, ti_m13, ti_m12, ti_m11, ti_m10, ti_m9, ti_m6, ti_m5, ti_m4, ti_m3, ti_m2, ti_m1, ti_0, ti_1, ti_2, ti_3, ti_4, ti_5, ti_6, ti_7, ti_8, ti_9, ti_10, ti_11, ti_12, ti_19, ti_20, ti_21, ti_44, ti_45, ti_48, ti_57, ti_59, ti_60, ti_98, ti_99, ti_100, ti_101, ti_103, ti_108, ti_110, ti_114, ti_127]); omega) | (split <;> omega)) (by first | omega | ((try simp only [Int32.lt_iff_toInt_lt, Int32.le_iff_toInt_le, ← Int32.toInt_inj, Int32.toInt_toInt64, ti_m14, ti_m13, ti_m12, ti_m11, ti_m10, ti_m9, ti_m6, ti_m5, ti_m4, ti_m3, ti_m2, ti_m1, ti_0, ti_1, ti_2, ti_3, ti_4, ti_5, ti_6, ti_7, ti_8, ti_9, ti_10, ti_11, ti_12, ti_19, ti_20, ti_21, ti_44, ti_45, ti_48, ti_57, ti_59, ti_60, ti_98, ti_99, ti_100, ti_101, ti_103, ti_108, ti_110, ti_114, ti_127]); omega) | (split <;> omega))
      refine ⟨hi97, ?_⟩
      have hz98 := vlt hi97
      intro q99 em_q99 lg100 em_lg100 it101 em_it101
      have hI102 : I8 lg100 it101 := by rw [em_it101]; exact i8_u hI94 (ok8_1 (oq_440) (fun _ => by rw [em_q99]; exact stF_01 _ _ _ _ _))
      have hK103 : Kc (fun j => (437 ≤ j ∧ j < 450)) lg0 it0 lg100 it101 := by rw [em_lg100, em_it101]; exact kc_f (by first | omega | (dsimp only; omega)) hK95
      try have e104 : (it101 a1 0).toInt = (it92 a1 0).toInt := by rw [em_it101]; exact congrArg Int32.toInt (congrFun (u2_row (by omega)) 0)
      refine ⟨fun c181 => ?_, fun c181 => ?_⟩
      · try simp only [Int32.lt_iff_toInt_lt, Int32.le_iff_toInt_le, ← Int32.toInt_inj, Int32.toInt_toInt64, ti_m14, ti_m13, ti_m12, ti_m11, ti_m10, ti_m9, ti_m6, ti_m5, ti_m4, ti_m3, ti_m2, ti_m1, ti_0, ti_1, ti_2, ti_3, ti_4, ti_5, ti_6, ti_7, ti_8, ti_9, ti_10, ti_11, ti_12, ti_19, ti_20, ti_21, ti_44, ti_45, ti_48, ti_57, ti_59, ti_60, ti_98, ti_99, ti_100, ti_101, ti_103, ti_108, ti_110, ti_114, ti_127] at c181
        unfold w_X5_reckon_b198
        have hi105 : vp_in a2 6 := vp_of (by first | omega | ((try simp only [Int32.lt_iff_toInt_lt, Int32.le_iff_toInt_le, ← Int32.toInt_inj, Int32.toInt_toInt64, ti_m14, ti_m13, ti_m12, ti_m11, ti_m10, ti_m9, ti_m6, ti_m5, ti_m4, ti_m3, ti_m2, ti_m1, ti_0, ti_1, ti_2, ti_3, ti_4, ti_5, ti_6, ti_7, ti_8, ti_9, ti_10, ti_11, ti_12, ti_19, ti_20, ti_21, ti_44, ti_45, ti_48, ti_57, ti_59, ti_60, ti_98, ti_99, ti_100, ti_101, ti_103, ti_108, ti_110, ti_114, ti_127]); omega) | (split <;> omega)) (by first | omega | ((try simp only [Int32.lt_iff_toInt_lt, Int32.le_iff_toInt_le, ← Int32.toInt_inj, Int32.toInt_toInt64, ti_m14, ti_m13, ti_m12, ti_m11, ti_m10, ti_m9, ti_m6, ti_m5, ti_m4, ti_m3, ti_m2, ti_m1, ti_0, ti_1, ti_2, ti_3, ti_4, ti_5, ti_6, ti_7, ti_8, ti_9, ti_10, ti_11, ti_12, ti_19, ti_20, ti_21, ti_44, ti_45, ti_48, ti_57, ti_59, ti_60, ti_98, ti_99, ti_100, ti_101, ti_103, ti_108, ti_110, ti_114, ti_127]); omega) | (split <;> omega))
        refine ⟨hi105, ?_⟩
        have hz106 := vlt hi105
        have hc109 : it101 (a1 + 4 + 2 * a2.toNatClampNeg) 2 &&& 1 = it101 (a1 + 4 + 2 * a2.toNatClampNeg) 2 := ib (i8_1 hI102 ((rpo4 ha1 (vlt (hi105)))))
        refine ⟨hc109, ?_⟩
        intro lg107 em_lg107 it108 em_it108
        have hI110 : I8 lg107 it108 := by rw [em_it108]; exact i8_u hI102 (ok8_1 (oq_439) (fun _ => i8_1 hI102 ((rpo4 ha1 (vlt (hi105))))))
        have hK111 : Kc (fun j => (437 ≤ j ∧ j < 450)) lg0 it0 lg107 it108 := by rw [em_lg107, em_it108]; exact kc_f (by first | omega | (dsimp only; omega)) hK103
        try have e112 : (it108 a1 0).toInt = (it101 a1 0).toInt := by rw [em_it108]; exact congrArg Int32.toInt (congrFun (u2_row (by omega)) 0)
        have e113 : (it108 440 2).toInt = (it101 440 2).toInt := by rw [em_it108]; exact congrArg Int32.toInt (congrFun (u2_row (by decide)) 2)
        try have f114 : ((a2 - 1) : Int32).toInt = (a2).toInt - 1 := sb32 (a := (a2).toInt) (b := 1) (rfl) (ti_1) (by omega) (by omega)
        have hi115 : vp_in (a2 - 1) 6 := vp_of (by first | omega | ((try simp only [Int32.lt_iff_toInt_lt, Int32.le_iff_toInt_le, ← Int32.toInt_inj, Int32.toInt_toInt64, ti_m14, ti_m13, ti_m12, ti_m11, ti_m10, ti_m9, ti_m6, ti_m5, ti_m4, ti_m3, ti_m2, ti_m1, ti_0, ti_1, ti_2, ti_3, ti_4, ti_5, ti_6, ti_7, ti_8, ti_9, ti_10, ti_11, ti_12, ti_19, ti_20, ti_21, ti_44, ti_45, ti_48, ti_57, ti_59, ti_60, ti_98, ti_99, ti_100, ti_101, ti_103, ti_108, ti_110, ti_114, ti_127]); omega) | (split <;> omega)) (by first | omega | ((try simp only [Int32.lt_iff_toInt_lt, Int32.le_iff_toInt_le, ← Int32.toInt_inj, Int32.toInt_toInt64, ti_m14, ti_m13, ti_m12, ti_m11, ti_m10, ti_m9, ti_m6, ti_m5, ti_m4, ti_m3, ti_m2, ti_m1, ti_0, ti_1, ti_2, ti_3, ti_4, ti_5, ti_6, ti_7, ti_8, ti_9, ti_10, ti_11, ti_12, ti_19, ti_20, ti_21, ti_44, ti_45, ti_48, ti_57, ti_59, ti_60, ti_98, ti_99, ti_100, ti_101, ti_103, ti_108, ti_110, ti_114, ti_127]); omega) | (split <;> omega))
        refine ⟨hi115, ?_⟩
        have hz116 := vlt hi115
        intro q117 em_q117 lg118 em_lg118 it119 em_it119
        have hI120 : I8 lg118 it119 := by rw [em_it119]; exact i8_u hI110 (ok8_1 (oq_439) (fun _ => by rw [em_q117]; exact stF_01 _ _ _ _ _))
        have hK121 : Kc (fun j => (437 ≤ j ∧ j < 450)) lg0 it0 lg118 it119 := by rw [em_lg118, em_it119]; exact kc_f (by first | omega | (dsimp only; omega)) hK111
        try have e122 : (it119 a1 0).toInt = (it108 a1 0).toInt := by rw [em_it119]; exact congrArg Int32.toInt (congrFun (u2_row (by omega)) 0)
        have e123 : (it119 440 2).toInt = (it108 440 2).toInt := by rw [em_it119]; exact congrArg Int32.toInt (congrFun (u2_row (by decide)) 2)
        unfold w_X5_reckon_b226
        intro q124 em_q124 lg125 em_lg125 it126 em_it126
        have hI127 : I8 lg125 it126 := by rw [em_it126]; exact i8_u hI120 (ok8_1 (oq_439) (fun _ => by rw [em_q124]; exact stF_01 _ _ _ _ _))
        have hK128 : Kc (fun j => (437 ≤ j ∧ j < 450)) lg0 it0 lg125 it126 := by rw [em_lg125, em_it126]; exact kc_f (by first | omega | (dsimp only; omega)) hK121
        try have e129 : (it126 a1 0).toInt = (it119 a1 0).toInt := by rw [em_it126]; exact congrArg Int32.toInt (congrFun (u2_row (by omega)) 0)
        have e130 : (it126 440 2).toInt = (it119 440 2).toInt := by rw [em_it126]; exact congrArg Int32.toInt (congrFun (u2_row (by decide)) 2)
        subst hp
        exact ⟨⟨hI127, hK128⟩, by first | exact Or.inl rfl | exact Or.inr rfl | assumption⟩
      · try simp only [Int32.lt_iff_toInt_lt, Int32.le_iff_toInt_le, ← Int32.toInt_inj, Int32.toInt_toInt64, ti_m14, ti_m13, ti_m12, ti_m11, ti_m10, ti_m9, ti_m6, ti_m5, ti_m4, ti_m3, ti_m2, ti_m1, ti_0, ti_1, ti_2, ti_3, ti_4, ti_5, ti_6, ti_7, ti_8, ti_9, ti_10, ti_11, ti_12, ti_19, ti_20, ti_21, ti_44, ti_45, ti_48, ti_57, ti_59, ti_60, ti_98, ti_99, ti_100, ti_101, ti_103, ti_108, ti_110, ti_114, ti_127] at c181
        refine ⟨fun c193 => ?_, fun c193 => ?_⟩
        · try simp only [Int32.lt_iff_toInt_lt, Int32.le_iff_toInt_le, ← Int32.toInt_inj, Int32.toInt_toInt64, ti_m14, ti_m13, ti_m12, ti_m11, ti_m10, ti_m9, ti_m6, ti_m5, ti_m4, ti_m3, ti_m2, ti_m1, ti_0, ti_1, ti_2, ti_3, ti_4, ti_5, ti_6, ti_7, ti_8, ti_9, ti_10, ti_11, ti_12, ti_19, ti_20, ti_21, ti_44, ti_45, ti_48, ti_57, ti_59, ti_60, ti_98, ti_99, ti_100, ti_101, ti_103, ti_108, ti_110, ti_114, ti_127] at c193
          unfold w_X5_reckon_b198
          have hi131 : vp_in a2 6 := vp_of (by first | omega | ((try simp only [Int32.lt_iff_toInt_lt, Int32.le_iff_toInt_le, ← Int32.toInt_inj, Int32.toInt_toInt64, ti_m14, ti_m13, ti_m12, ti_m11, ti_m10, ti_m9, ti_m6, ti_m5, ti_m4, ti_m3, ti_m2, ti_m1, ti_0, ti_1, ti_2, ti_3, ti_4, ti_5, ti_6, ti_7, ti_8, ti_9, ti_10, ti_11, ti_12, ti_19, ti_20, ti_21, ti_44, ti_45, ti_48, ti_57, ti_59, ti_60, ti_98, ti_99, ti_100, ti_101, ti_103, ti_108, ti_110, ti_114, ti_127]); omega) | (split <;> omega)) (by first | omega | ((try simp only [Int32.lt_iff_toInt_lt, Int32.le_iff_toInt_le, ← Int32.toInt_inj, Int32.toInt_toInt64, ti_m14, ti_m13, ti_m12, ti_m11, ti_m10, ti_m9, ti_m6, ti_m5, ti_m4, ti_m3, ti_m2, ti_m1, ti_0, ti_1, ti_2, ti_3, ti_4, ti_5, ti_6, ti_7, ti_8, ti_9, ti_10, ti_11, ti_12, ti_19, ti_20, ti_21, ti_44, ti_45, ti_48, ti_57, ti_59, ti_60, ti_98, ti_99, ti_100, ti_101, ti_103, ti_108, ti_110, ti_114, ti_127]); omega) | (split <;> omega))
          refine ⟨hi131, ?_⟩
          have hz132 := vlt hi131
          have hc135 : it101 (a1 + 4 + 2 * a2.toNatClampNeg) 2 &&& 1 = it101 (a1 + 4 + 2 * a2.toNatClampNeg) 2 := ib (i8_1 hI102 ((rpo4 ha1 (vlt (hi131)))))
          refine ⟨hc135, ?_⟩
          intro lg133 em_lg133 it134 em_it134
          have hI136 : I8 lg133 it134 := by rw [em_it134]; exact i8_u hI102 (ok8_1 (oq_439) (fun _ => i8_1 hI102 ((rpo4 ha1 (vlt (hi131))))))
          have hK137 : Kc (fun j => (437 ≤ j ∧ j < 450)) lg0 it0 lg133 it134 := by rw [em_lg133, em_it134]; exact kc_f (by first | omega | (dsimp only; omega)) hK103
          try have e138 : (it134 a1 0).toInt = (it101 a1 0).toInt := by rw [em_it134]; exact congrArg Int32.toInt (congrFun (u2_row (by omega)) 0)
          have e139 : (it134 440 2).toInt = (it101 440 2).toInt := by rw [em_it134]; exact congrArg Int32.toInt (congrFun (u2_row (by decide)) 2)
          try have f140 : ((a2 - 1) : Int32).toInt = (a2).toInt - 1 := sb32 (a := (a2).toInt) (b := 1) (rfl) (ti_1) (by omega) (by omega)
          have hi141 : vp_in (a2 - 1) 6 := vp_of (by first | omega | ((try simp only [Int32.lt_iff_toInt_lt, Int32.le_iff_toInt_le, ← Int32.toInt_inj, Int32.toInt_toInt64, ti_m14, ti_m13, ti_m12, ti_m11, ti_m10, ti_m9, ti_m6, ti_m5, ti_m4, ti_m3, ti_m2, ti_m1, ti_0, ti_1, ti_2, ti_3, ti_4, ti_5, ti_6, ti_7, ti_8, ti_9, ti_10, ti_11, ti_12, ti_19, ti_20, ti_21, ti_44, ti_45, ti_48, ti_57, ti_59, ti_60, ti_98, ti_99, ti_100, ti_101, ti_103, ti_108, ti_110, ti_114, ti_127]); omega) | (split <;> omega)) (by first | omega | ((try simp only [Int32.lt_iff_toInt_lt, Int32.le_iff_toInt_le, ← Int32.toInt_inj, Int32.toInt_toInt64, ti_m14, ti_m13, ti_m12, ti_m11, ti_m10, ti_m9, ti_m6, ti_m5, ti_m4, ti_m3, ti_m2, ti_m1, ti_0, ti_1, ti_2, ti_3, ti_4, ti_5, ti_6, ti_7, ti_8, ti_9, ti_10, ti_11, ti_12, ti_19, ti_20, ti_21, ti_44, ti_45, ti_48, ti_57, ti_59, ti_60, ti_98, ti_99, ti_100, ti_101, ti_103, ti_108, ti_110, ti_114, ti_127]); omega) | (split <;> omega))
          refine ⟨hi141, ?_⟩
          have hz142 := vlt hi141
          intro q143 em_q143 lg144 em_lg144 it145 em_it145
          have hI146 : I8 lg144 it145 := by rw [em_it145]; exact i8_u hI136 (ok8_1 (oq_439) (fun _ => by rw [em_q143]; exact stF_01 _ _ _ _ _))
          have hK147 : Kc (fun j => (437 ≤ j ∧ j < 450)) lg0 it0 lg144 it145 := by rw [em_lg144, em_it145]; exact kc_f (by first | omega | (dsimp only; omega)) hK137
          try have e148 : (it145 a1 0).toInt = (it134 a1 0).toInt := by rw [em_it145]; exact congrArg Int32.toInt (congrFun (u2_row (by omega)) 0)
          have e149 : (it145 440 2).toInt = (it134 440 2).toInt := by rw [em_it145]; exact congrArg Int32.toInt (congrFun (u2_row (by decide)) 2)
          unfold w_X5_reckon_b226
          intro q150 em_q150 lg151 em_lg151 it152 em_it152
          have hI153 : I8 lg151 it152 := by rw [em_it152]; exact i8_u hI146 (ok8_1 (oq_439) (fun _ => by rw [em_q150]; exact stF_01 _ _ _ _ _))
          have hK154 : Kc (fun j => (437 ≤ j ∧ j < 450)) lg0 it0 lg151 it152 := by rw [em_lg151, em_it152]; exact kc_f (by first | omega | (dsimp only; omega)) hK147
          try have e155 : (it152 a1 0).toInt = (it145 a1 0).toInt := by rw [em_it152]; exact congrArg Int32.toInt (congrFun (u2_row (by omega)) 0)
          have e156 : (it152 440 2).toInt = (it145 440 2).toInt := by rw [em_it152]; exact congrArg Int32.toInt (congrFun (u2_row (by decide)) 2)
          subst hp
          exact ⟨⟨hI153, hK154⟩, by first | exact Or.inl rfl | exact Or.inr rfl | assumption⟩
        · try simp only [Int32.lt_iff_toInt_lt, Int32.le_iff_toInt_le, ← Int32.toInt_inj, Int32.toInt_toInt64, ti_m14, ti_m13, ti_m12, ti_m11, ti_m10, ti_m9, ti_m6, ti_m5, ti_m4, ti_m3, ti_m2, ti_m1, ti_0, ti_1, ti_2, ti_3, ti_4, ti_5, ti_6, ti_7, ti_8, ti_9, ti_10, ti_11, ti_12, ti_19, ti_20, ti_21, ti_44, ti_45, ti_48, ti_57, ti_59, ti_60, ti_98, ti_99, ti_100, ti_101, ti_103, ti_108, ti_110, ti_114, ti_127] at c193
          subst hp
          exact ⟨⟨hI102, hK103⟩, by first | exact Or.inl rfl | exact Or.inr rfl | assumption⟩
    · try simp only [Int32.lt_iff_toInt_lt, Int32.le_iff_toInt_le, ← Int32.toInt_inj, Int32.toInt_toInt64, ti_m14, ti_m13, ti_m12, ti_m11, ti_m10, ti_m9, ti_m6, ti_m5, ti_m4, ti_m3, ti_m2, ti_m1, ti_0, ti_1, ti_2, ti_3, ti_4, ti_5, ti_6, ti_7, ti_8, ti_9, ti_10, ti_11, ti_12, ti_19, ti_20, ti_21, ti_44, ti_45, ti_48, ti_57, ti_59, ti_60, ti_98, ti_99, ti_100, ti_101, ti_103, ti_108, ti_110, ti_114, ti_127] at c72
      refine ⟨fun c82 => ?_, fun c82 => ?_⟩
      · try simp only [Int32.lt_iff_toInt_lt, Int32.le_iff_toInt_le, ← Int32.toInt_inj, Int32.toInt_toInt64, ti_m14, ti_m13, ti_m12, ti_m11, ti_m10, ti_m9, ti_m6, ti_m5, ti_m4, ti_m3, ti_m2, ti_m1, ti_0, ti_1, ti_2, ti_3, ti_4, ti_5, ti_6, ti_7, ti_8, ti_9, ti_10, ti_11, ti_12, ti_19, ti_20, ti_21, ti_44, ti_45, ti_48, ti_57, ti_59, ti_60, ti_98, ti_99, ti_100, ti_101, ti_103, ti_108, ti_110, ti_114, ti_127] at c82
        subst hp
        exact ⟨⟨hI, hKr⟩, by first | exact Or.inl rfl | exact Or.inr rfl | assumption⟩
      · try simp only [Int32.lt_iff_toInt_lt, Int32.le_iff_toInt_le, ← Int32.toInt_inj, Int32.toInt_toInt64, ti_m14, ti_m13, ti_m12, ti_m11, ti_m10, ti_m9, ti_m6, ti_m5, ti_m4, ti_m3, ti_m2, ti_m1, ti_0, ti_1, ti_2, ti_3, ti_4, ti_5, ti_6, ti_7, ti_8, ti_9, ti_10, ti_11, ti_12, ti_19, ti_20, ti_21, ti_44, ti_45, ti_48, ti_57, ti_59, ti_60, ti_98, ti_99, ti_100, ti_101, ti_103, ti_108, ti_110, ti_114, ti_127] at c82
        try have f157 : ((a2 - 1) : Int32).toInt = (a2).toInt - 1 := sb32 (a := (a2).toInt) (b := 1) (rfl) (ti_1) (by omega) (by omega)
        have hi158 : vp_in (a2 - 1) 6 := vp_of (by first | omega | ((try simp only [Int32.lt_iff_toInt_lt, Int32.le_iff_toInt_le, ← Int32.toInt_inj, Int32.toInt_toInt64, ti_m14, ti_m13, ti_m12, ti_m11, ti_m10, ti_m9, ti_m6, ti_m5, ti_m4, ti_m3, ti_m2, ti_m1, ti_0, ti_1, ti_2, ti_3, ti_4, ti_5, ti_6, ti_7, ti_8, ti_9, ti_10, ti_11, ti_12, ti_19, ti_20, ti_21, ti_44, ti_45, ti_48, ti_57, ti_59, ti_60, ti_98, ti_99, ti_100, ti_101, ti_103, ti_108, ti_110, ti_114, ti_127]); omega) | (split <;> omega)) (by first | omega | ((try simp only [Int32.lt_iff_toInt_lt, Int32.le_iff_toInt_le, ← Int32.toInt_inj, Int32.toInt_toInt64, ti_m14, ti_m13, ti_m12, ti_m11, ti_m10, ti_m9, ti_m6, ti_m5, ti_m4, ti_m3, ti_m2, ti_m1, ti_0, ti_1, ti_2, ti_3, ti_4, ti_5, ti_6, ti_7, ti_8, ti_9, ti_10, ti_11, ti_12, ti_19, ti_20, ti_21, ti_44, ti_45, ti_48, ti_57, ti_59, ti_60, ti_98, ti_99, ti_100, ti_101, ti_103, ti_108, ti_110, ti_114, ti_127]); omega) | (split <;> omega))
        refine ⟨hi158, ?_⟩
        have hz159 := vlt hi158
        refine ⟨fun c98 => ?_, fun c98 => ?_⟩
        · try simp only [Int32.lt_iff_toInt_lt, Int32.le_iff_toInt_le, ← Int32.toInt_inj, Int32.toInt_toInt64, ti_m14, ti_m13, ti_m12, ti_m11, ti_m10, ti_m9, ti_m6, ti_m5, ti_m4, ti_m3, ti_m2, ti_m1, ti_0, ti_1, ti_2, ti_3, ti_4, ti_5, ti_6, ti_7, ti_8, ti_9, ti_10, ti_11, ti_12, ti_19, ti_20, ti_21, ti_44, ti_45, ti_48, ti_57, ti_59, ti_60, ti_98, ti_99, ti_100, ti_101, ti_103, ti_108, ti_110, ti_114, ti_127] at c98
          try have f160 : ((a2 - 1) : Int32).toInt = (a2).toInt - 1 := sb32 (a := (a2).toInt) (b := 1) (rfl) (ti_1) (by omega) (by omega)
          have hi161 : vp_in (a2 - 1) 6 := vp_of (by first | omega | ((try simp only [Int32.lt_iff_toInt_lt, Int32.le_iff_toInt_le, ← Int32.toInt_inj, Int32.toInt_toInt64, ti_m14, ti_m13, ti_m12, ti_m11, ti_m10, ti_m9, ti_m6, ti_m5, ti_m4, ti_m3, ti_m2, ti_m1, ti_0, ti_1, ti_2, ti_3, ti_4, ti_5, ti_6, ti_7, ti_8, ti_9, ti_10, ti_11, ti_12, ti_19, ti_20, ti_21, ti_44, ti_45, ti_48, ti_57, ti_59, ti_60, ti_98, ti_99, ti_100, ti_101, ti_103, ti_108, ti_110, ti_114, ti_127]); omega) | (split <;> omega)) (by first | omega | ((try simp only [Int32.lt_iff_toInt_lt, Int32.le_iff_toInt_le, ← Int32.toInt_inj, Int32.toInt_toInt64, ti_m14, ti_m13, ti_m12, ti_m11, ti_m10, ti_m9, ti_m6, ti_m5, ti_m4, ti_m3, ti_m2, ti_m1, ti_0, ti_1, ti_2, ti_3, ti_4, ti_5, ti_6, ti_7, ti_8, ti_9, ti_10, ti_11, ti_12, ti_19, ti_20, ti_21, ti_44, ti_45, ti_48, ti_57, ti_59, ti_60, ti_98, ti_99, ti_100, ti_101, ti_103, ti_108, ti_110, ti_114, ti_127]); omega) | (split <;> omega))
          refine ⟨hi161, ?_⟩
          have hz162 := vlt hi161
          have hc165 : it0 (a1 + 5 + 2 * (a2 - 1).toNatClampNeg) 2 &&& 1 = it0 (a1 + 5 + 2 * (a2 - 1).toNatClampNeg) 2 := ib (i8_1 hI ((rpo5 ha1 (vlt (hi161)))))
          refine ⟨hc165, ?_⟩
          intro lg163 em_lg163 it164 em_it164
          have hI166 : I8 lg163 it164 := by rw [em_it164]; exact i8_u hI (ok8_1 (oq_440) (fun _ => i8_1 hI ((rpo5 ha1 (vlt (hi161))))))
          have hK167 : Kc (fun j => (437 ≤ j ∧ j < 450)) lg0 it0 lg163 it164 := by rw [em_lg163, em_it164]; exact kc_f (by first | omega | (dsimp only; omega)) hKr
          try have e168 : (it164 a1 0).toInt = (it0 a1 0).toInt := by rw [em_it164]; exact congrArg Int32.toInt (congrFun (u2_row (by omega)) 0)
          intro lg169 em_lg169 it170 em_it170
          have hI171 : I8 lg169 it170 := by rw [em_it170]; exact i8_u hI166 (ok8_1 (oq_439) (fun _ => Or.inl rfl))
          have hK172 : Kc (fun j => (437 ≤ j ∧ j < 450)) lg0 it0 lg169 it170 := by rw [em_lg169, em_it170]; exact kc_f (by first | omega | (dsimp only; omega)) hK167
          try have e173 : (it170 a1 0).toInt = (it164 a1 0).toInt := by rw [em_it170]; exact congrArg Int32.toInt (congrFun (u2_row (by omega)) 0)
          try have f174 : ((a2 - 1) : Int32).toInt = (a2).toInt - 1 := sb32 (a := (a2).toInt) (b := 1) (rfl) (ti_1) (by omega) (by omega)
          have hi175 : vp_in (a2 - 1) 6 := vp_of (by first | omega | ((try simp only [Int32.lt_iff_toInt_lt, Int32.le_iff_toInt_le, ← Int32.toInt_inj, Int32.toInt_toInt64, ti_m14, ti_m13, ti_m12, ti_m11, ti_m10, ti_m9, ti_m6, ti_m5, ti_m4, ti_m3, ti_m2, ti_m1, ti_0, ti_1, ti_2, ti_3, ti_4, ti_5, ti_6, ti_7, ti_8, ti_9, ti_10, ti_11, ti_12, ti_19, ti_20, ti_21, ti_44, ti_45, ti_48, ti_57, ti_59, ti_60, ti_98, ti_99, ti_100, ti_101, ti_103, ti_108, ti_110, ti_114, ti_127]); omega) | (split <;> omega)) (by first | omega | ((try simp only [Int32.lt_iff_toInt_lt, Int32.le_iff_toInt_le, ← Int32.toInt_inj, Int32.toInt_toInt64, ti_m14, ti_m13, ti_m12, ti_m11, ti_m10, ti_m9, ti_m6, ti_m5, ti_m4, ti_m3, ti_m2, ti_m1, ti_0, ti_1, ti_2, ti_3, ti_4, ti_5, ti_6, ti_7, ti_8, ti_9, ti_10, ti_11, ti_12, ti_19, ti_20, ti_21, ti_44, ti_45, ti_48, ti_57, ti_59, ti_60, ti_98, ti_99, ti_100, ti_101, ti_103, ti_108, ti_110, ti_114, ti_127]); omega) | (split <;> omega))
          refine ⟨hi175, ?_⟩
          have hz176 := vlt hi175
          intro q177 em_q177 lg178 em_lg178 it179 em_it179
          have hI180 : I8 lg178 it179 := by rw [em_it179]; exact i8_u hI171 (ok8_1 (oq_439) (fun _ => by rw [em_q177]; exact stF_01 _ _ _ _ _))
          have hK181 : Kc (fun j => (437 ≤ j ∧ j < 450)) lg0 it0 lg178 it179 := by rw [em_lg178, em_it179]; exact kc_f (by first | omega | (dsimp only; omega)) hK172
          try have e182 : (it179 a1 0).toInt = (it170 a1 0).toInt := by rw [em_it179]; exact congrArg Int32.toInt (congrFun (u2_row (by omega)) 0)
          unfold w_X5_reckon_b226
          intro q183 em_q183 lg184 em_lg184 it185 em_it185
          have hI186 : I8 lg184 it185 := by rw [em_it185]; exact i8_u hI180 (ok8_1 (oq_439) (fun _ => by rw [em_q183]; exact stF_01 _ _ _ _ _))
          have hK187 : Kc (fun j => (437 ≤ j ∧ j < 450)) lg0 it0 lg184 it185 := by rw [em_lg184, em_it185]; exact kc_f (by first | omega | (dsimp only; omega)) hK181
          try have e188 : (it185 a1 0).toInt = (it179 a1 0).toInt := by rw [em_it185]; exact congrArg Int32.toInt (congrFun (u2_row (by omega)) 0)
          subst hp
          exact ⟨⟨hI186, hK187⟩, by first | exact Or.inl rfl | exact Or.inr rfl | assumption⟩
        · try simp only [Int32.lt_iff_toInt_lt, Int32.le_iff_toInt_le, ← Int32.toInt_inj, Int32.toInt_toInt64, ti_m14, ti_m13, ti_m12, ti_m11, ti_m10, ti_m9, ti_m6, ti_m5, ti_m4, ti_m3, ti_m2, ti_m1, ti_0, ti_1, ti_2, ti_3, ti_4, ti_5, ti_6, ti_7, ti_8, ti_9, ti_10, ti_11, ti_12, ti_19, ti_20, ti_21, ti_44, ti_45, ti_48, ti_57, ti_59, ti_60, ti_98, ti_99, ti_100, ti_101, ti_103, ti_108, ti_110, ti_114, ti_127] at c98
          subst hp
          exact ⟨⟨hI, hKr⟩, by first | exact Or.inl rfl | exact Or.inr rfl | assumption⟩
  · try simp only [Int32.lt_iff_toInt_lt, Int32.le_iff_toInt_le, ← Int32.toInt_inj, Int32.toInt_toInt64, ti_m14, ti_m13, ti_m12, ti_m11, ti_m10, ti_m9, ti_m6, ti_m5, ti_m4, ti_m3, ti_m2, ti_m1, ti_0, ti_1, ti_2, ti_3, ti_4, ti_5, ti_6, ti_7, ti_8, ti_9, ti_10, ti_11, ti_12, ti_19, ti_20, ti_21, ti_44, ti_45, ti_48, ti_57, ti_59, ti_60, ti_98, ti_99, ti_100, ti_101, ti_103, ti_108, ti_110, ti_114, ti_127] at c1
    refine ⟨fun c11 => ?_, fun c11 => ?_⟩
    · try simp only [Int32.lt_iff_toInt_lt, Int32.le_iff_toInt_le, ← Int32.toInt_inj, Int32.toInt_toInt64, ti_m14, ti_m13, ti_m12, ti_m11, ti_m10, ti_m9, ti_m6, ti_m5, ti_m4, ti_m3, ti_m2, ti_m1, ti_0, ti_1, ti_2, ti_3, ti_4, ti_5, ti_6, ti_7, ti_8, ti_9, ti_10, ti_11, ti_12, ti_19, ti_20, ti_21, ti_44, ti_45, ti_48, ti_57, ti_59, ti_60, ti_98, ti_99, ti_100, ti_101, ti_103, ti_108, ti_110, ti_114, ti_127] at c11
      subst hp
      exact ⟨⟨hI, hKr⟩, by first | exact Or.inl rfl | exact Or.inr rfl | assumption⟩
    · try simp only [Int32.lt_iff_toInt_lt, Int32.le_iff_toInt_le, ← Int32.toInt_inj, Int32.toInt_toInt64, ti_m14, ti_m13, ti_m12, ti_m11, ti_m10, ti_m9, ti_m6, ti_m5, ti_m4, ti_m3, ti_m2, ti_m1, ti_0, ti_1, ti_2, ti_3, ti_4, ti_5, ti_6, ti_7, ti_8, ti_9, ti_10, ti_11, ti_12, ti_19, ti_20, ti_21, ti_44, ti_45, ti_48, ti_57, ti_59, ti_60, ti_98, ti_99, ti_100, ti_101, ti_103, ti_108, ti_110, ti_114, ti_127] at c11
      refine ⟨fun c25 => ?_, fun c25 => ?_⟩
      · try simp only [Int32.lt_iff_toInt_lt, Int32.le_iff_toInt_le, ← Int32.toInt_inj, Int32.toInt_toInt64, ti_m14, ti_m13, ti_m12, ti_m11, ti_m10, ti_m9, ti_m6, ti_m5, ti_m4, ti_m3, ti_m2, ti_m1, ti_0, ti_1, ti_2, ti_3, ti_4, ti_5, ti_6, ti_7, ti_8, ti_9, ti_10, ti_11, ti_12, ti_19, ti_20, ti_21, ti_44, ti_45, ti_48, ti_57, ti_59, ti_60, ti_98, ti_99, ti_100, ti_101, ti_103, ti_108, ti_110, ti_114, ti_127] at c25
        intro lg189 em_lg189 it190 em_it190
        have hI191 : I8 lg189 it190 := by rw [em_it190]; exact i8_u hI (ok8_1 (oq_440) (fun _ => Or.inl rfl))
        have hK192 : Kc (fun j => (437 ≤ j ∧ j < 450)) lg0 it0 lg189 it190 := by rw [em_lg189, em_it190]; exact kc_f (by first | omega | (dsimp only; omega)) hKr
        intro q193 em_q193 lg194 em_lg194 it195 em_it195
        have hI196 : I8 lg194 it195 := by rw [em_it195]; exact i8_u hI191 (ok8_1 (oq_440) (fun _ => by rw [em_q193]; exact stF_01 _ _ _ _ _))
        have hK197 : Kc (fun j => (437 ≤ j ∧ j < 450)) lg0 it0 lg194 it195 := by rw [em_lg194, em_it195]; exact kc_f (by first | omega | (dsimp only; omega)) hK192
        have hc200 : it195 (a1 + 4) 2 &&& 1 = it195 (a1 + 4) 2 := ib (i8_1 hI196 ((rpo4 ha1 (show 0 < 6 by decide))))
        refine ⟨hc200, ?_⟩
        intro lg198 em_lg198 it199 em_it199
        have hI201 : I8 lg198 it199 := by rw [em_it199]; exact i8_u hI196 (ok8_1 (oq_439) (fun _ => i8_1 hI196 ((rpo4 ha1 (show 0 < 6 by decide)))))
        have hK202 : Kc (fun j => (437 ≤ j ∧ j < 450)) lg0 it0 lg198 it199 := by rw [em_lg198, em_it199]; exact kc_f (by first | omega | (dsimp only; omega)) hK197
        unfold w_X5_reckon_b226
        intro q203 em_q203 lg204 em_lg204 it205 em_it205
        have hI206 : I8 lg204 it205 := by rw [em_it205]; exact i8_u hI201 (ok8_1 (oq_439) (fun _ => by rw [em_q203]; exact stF_01 _ _ _ _ _))
        have hK207 : Kc (fun j => (437 ≤ j ∧ j < 450)) lg0 it0 lg204 it205 := by rw [em_lg204, em_it205]; exact kc_f (by first | omega | (dsimp only; omega)) hK202
        subst hp
        exact ⟨⟨hI206, hK207⟩, by first | exact Or.inl rfl | exact Or.inr rfl | assumption⟩
      · try simp only [Int32.lt_iff_toInt_lt, Int32.le_iff_toInt_le, ← Int32.toInt_inj, Int32.toInt_toInt64, ti_m14, ti_m13, ti_m12, ti_m11, ti_m10, ti_m9, ti_m6, ti_m5, ti_m4, ti_m3, ti_m2, ti_m1, ti_0, ti_1, ti_2, ti_3, ti_4, ti_5, ti_6, ti_7, ti_8, ti_9, ti_10, ti_11, ti_12, ti_19, ti_20, ti_21, ti_44, ti_45, ti_48, ti_57, ti_59, ti_60, ti_98, ti_99, ti_100, ti_101, ti_103, ti_108, ti_110, ti_114, ti_127] at c25
        subst hp
        exact ⟨⟨hI, hKr⟩, by first | exact Or.inl rfl | exact Or.inr rfl | assumption⟩
set_option maxRecDepth 100000 in
theorem s_X5_find {a1 : Nat} (ha1 : a1 ∈ rb) {lg0 : LGt} {it0 : ITt} (hI : I8 lg0 it0) : w_X5_find a1 (fun (v : Int32) (lg' : LGt) (it' : ITt) => (I8 lg' it' ∧ Kc (fun j => (437 ≤ j ∧ j < 450)) lg0 it0 lg' it') ∧ (v.toInt = -5 ∨ v.toInt = -6 ∨ ((v.toInt = 9 ∨ (0 ≤ v.toInt ∧ v.toInt ≤ 5)) ∧ 1 ≤ (it0 a1 0).toInt)))  lg0 it0 := by
  have hKr : Kc (fun j => (437 ≤ j ∧ j < 450)) lg0 it0 lg0 it0 := kc_r
  generalize hp : (fun (v : Int32) (lg' : LGt) (it' : ITt) => (I8 lg' it' ∧ Kc (fun j => (437 ≤ j ∧ j < 450)) lg0 it0 lg' it') ∧ (v.toInt = -5 ∨ v.toInt = -6 ∨ ((v.toInt = 9 ∨ (0 ≤ v.toInt ∧ v.toInt ≤ 5)) ∧ 1 ≤ (it0 a1 0).toInt))) = Pz
  unfold w_X5_find
  have hfar := rb_far ha1
  have tm5 := ti_m5
  have t9 := ti_9
  have f38 : 0 ≤ (it0 a1 0).toInt ∧ (it0 a1 0).toInt ≤ 6 := i8_3 hI (obr ha1)
  refine ⟨fun c7 => ?_, fun c7 => ?_⟩
  · try simp only [Int32.lt_iff_toInt_lt, Int32.le_iff_toInt_le, ← Int32.toInt_inj, Int32.toInt_toInt64, ti_m14, ti_m13, ti_m12, ti_m11, ti_m10, ti_m9, ti_m6, ti_m5, ti_m4, ti_m3, ti_m2, ti_m1, ti_0, ti_1, ti_2, ti_3, ti_4, ti_5, ti_6, ti_7, ti_8, ti_9, ti_10, ti_11, ti_12, ti_19, ti_20, ti_21, ti_44, ti_45, ti_48, ti_57, ti_59, ti_60, ti_98, ti_99, ti_100, ti_101, ti_103, ti_108, ti_110, ti_114, ti_127] at c7
    have lp14 : ∀ (n : Nat) (x2 : Int32) (x3 : Int32) (lg : LGt) (it : ITt), I8 lg it → Kc (fun j => (437 ≤ j ∧ j < 450)) lg0 it0 lg it → ((0 ≤ (x3).toInt) ∧ (((x2).toInt = -5 ∨ (x2).toInt = 9 ∨ (0 ≤ (x2).toInt ∧ (x2).toInt ≤ 5))) ∧ (1 ≤ (it0 a1 0).toInt) ∧ ((it a1 0).toInt = (it0 a1 0).toInt)) → (8 - (x3).toInt).toNat < n → w_X5_find_b14 a1 Pz  n x2 x3 lg it := by
      intro n14
      induction n14 with
      | zero => intro x2 x3 lg it _ _ _ hn; exact absurd hn (Nat.not_lt_zero _)
      | succ n14 ih14 =>
        intro x2 x3 lg41 it42 hI39 hK40 hv hn
        unfold w_X5_find_b14
        obtain ⟨hv14_0, hv14_1, hv14_2, hv14_3⟩ := hv
        have f43 : 0 ≤ (it42 a1 0).toInt ∧ (it42 a1 0).toInt ≤ 6 := i8_3 hI39 (obr ha1)
        refine ⟨fun c19 => ?_, fun c19 => ?_⟩
        · try simp only [Int32.lt_iff_toInt_lt, Int32.le_iff_toInt_le, ← Int32.toInt_inj, Int32.toInt_toInt64, ti_m14, ti_m13, ti_m12, ti_m11, ti_m10, ti_m9, ti_m6, ti_m5, ti_m4, ti_m3, ti_m2, ti_m1, ti_0, ti_1, ti_2, ti_3, ti_4, ti_5, ti_6, ti_7, ti_8, ti_9, ti_10, ti_11, ti_12, ti_19, ti_20, ti_21, ti_44, ti_45, ti_48, ti_57, ti_59, ti_60, ti_98, ti_99, ti_100, ti_101, ti_103, ti_108, ti_110, ti_114, ti_127] at c19
          subst hp
          exact ⟨⟨hI39, hK40⟩, by have tm5 := ti_m5; have tm6 := ti_m6; omega⟩
        · try simp only [Int32.lt_iff_toInt_lt, Int32.le_iff_toInt_le, ← Int32.toInt_inj, Int32.toInt_toInt64, ti_m14, ti_m13, ti_m12, ti_m11, ti_m10, ti_m9, ti_m6, ti_m5, ti_m4, ti_m3, ti_m2, ti_m1, ti_0, ti_1, ti_2, ti_3, ti_4, ti_5, ti_6, ti_7, ti_8, ti_9, ti_10, ti_11, ti_12, ti_19, ti_20, ti_21, ti_44, ti_45, ti_48, ti_57, ti_59, ti_60, ti_98, ti_99, ti_100, ti_101, ti_103, ti_108, ti_110, ti_114, ti_127] at c19
          refine ⟨_, s_X5_reckon (ha1) (x3) hI39 (by omega), ?_⟩
          intro v49 lg44 it45 hq
          obtain ⟨⟨hI46, hK47⟩, ha50⟩ := hq
          have hK48 : Kc (fun j => (437 ≤ j ∧ j < 450)) lg0 it0 lg44 it45 := kc_t hK40 hK47 (fun j hj => by first | omega | exact False.elim hj | (dsimp only at hj ⊢; omega))
          try have e51 : (it45 a1 0).toInt = (it42 a1 0).toInt := congrArg (fun f => Int32.toInt (f 0)) (hK47 a1 (by first | omega | (dsimp only; omega))).2
          refine ⟨fun c28 => ?_, fun c28 => ?_⟩
          · try simp only [Int32.lt_iff_toInt_lt, Int32.le_iff_toInt_le, ← Int32.toInt_inj, Int32.toInt_toInt64, ti_m14, ti_m13, ti_m12, ti_m11, ti_m10, ti_m9, ti_m6, ti_m5, ti_m4, ti_m3, ti_m2, ti_m1, ti_0, ti_1, ti_2, ti_3, ti_4, ti_5, ti_6, ti_7, ti_8, ti_9, ti_10, ti_11, ti_12, ti_19, ti_20, ti_21, ti_44, ti_45, ti_48, ti_57, ti_59, ti_60, ti_98, ti_99, ti_100, ti_101, ti_103, ti_108, ti_110, ti_114, ti_127] at c28
            have hc54 : it45 439 2 &&& 1 = it45 439 2 := ib (i8_1 hI46 (oq_439))
            refine ⟨hc54, ?_⟩
            intro lg52 em_lg52 it53 em_it53
            have hI55 : I8 lg52 it53 := by rw [em_it53]; exact i8_u hI46 (ok8_1 (oq_441) (fun _ => i8_1 hI46 (oq_439)))
            have hK56 : Kc (fun j => (437 ≤ j ∧ j < 450)) lg0 it0 lg52 it53 := by rw [em_lg52, em_it53]; exact kc_f (by first | omega | (dsimp only; omega)) hK48
            try have e57 : (it53 a1 0).toInt = (it45 a1 0).toInt := by rw [em_it53]; exact congrArg Int32.toInt (congrFun (u2_row (by omega)) 0)
            refine ⟨fun c48 => ?_, fun c48 => ?_⟩
            · try simp only [Int32.lt_iff_toInt_lt, Int32.le_iff_toInt_le, ← Int32.toInt_inj, Int32.toInt_toInt64, ti_m14, ti_m13, ti_m12, ti_m11, ti_m10, ti_m9, ti_m6, ti_m5, ti_m4, ti_m3, ti_m2, ti_m1, ti_0, ti_1, ti_2, ti_3, ti_4, ti_5, ti_6, ti_7, ti_8, ti_9, ti_10, ti_11, ti_12, ti_19, ti_20, ti_21, ti_44, ti_45, ti_48, ti_57, ti_59, ti_60, ti_98, ti_99, ti_100, ti_101, ti_103, ti_108, ti_110, ti_114, ti_127] at c48
              unfold w_X5_find_b62
              refine ⟨fun c69 => ?_, fun c69 => ?_⟩
              · try simp only [Int32.lt_iff_toInt_lt, Int32.le_iff_toInt_le, ← Int32.toInt_inj, Int32.toInt_toInt64, ti_m14, ti_m13, ti_m12, ti_m11, ti_m10, ti_m9, ti_m6, ti_m5, ti_m4, ti_m3, ti_m2, ti_m1, ti_0, ti_1, ti_2, ti_3, ti_4, ti_5, ti_6, ti_7, ti_8, ti_9, ti_10, ti_11, ti_12, ti_19, ti_20, ti_21, ti_44, ti_45, ti_48, ti_57, ti_59, ti_60, ti_98, ti_99, ti_100, ti_101, ti_103, ti_108, ti_110, ti_114, ti_127] at c69
                refine ⟨fun c78 => ?_, fun c78 => ?_⟩
                · try simp only [Int32.lt_iff_toInt_lt, Int32.le_iff_toInt_le, ← Int32.toInt_inj, Int32.toInt_toInt64, ti_m14, ti_m13, ti_m12, ti_m11, ti_m10, ti_m9, ti_m6, ti_m5, ti_m4, ti_m3, ti_m2, ti_m1, ti_0, ti_1, ti_2, ti_3, ti_4, ti_5, ti_6, ti_7, ti_8, ti_9, ti_10, ti_11, ti_12, ti_19, ti_20, ti_21, ti_44, ti_45, ti_48, ti_57, ti_59, ti_60, ti_98, ti_99, ti_100, ti_101, ti_103, ti_108, ti_110, ti_114, ti_127] at c78
                  unfold w_X5_find_b93
                  have hc60 : it53 439 2 &&& 1 = it53 439 2 := ib (i8_1 hI55 (oq_439))
                  refine ⟨hc60, ?_⟩
                  intro lg58 em_lg58 it59 em_it59
                  have hI61 : I8 lg58 it59 := by rw [em_it59]; exact i8_u hI55 (ok8_1 (oq_438) (fun _ => i8_1 hI55 (oq_439)))
                  have hK62 : Kc (fun j => (437 ≤ j ∧ j < 450)) lg0 it0 lg58 it59 := by rw [em_lg58, em_it59]; exact kc_f (by first | omega | (dsimp only; omega)) hK56
                  try have e63 : (it59 a1 0).toInt = (it53 a1 0).toInt := by rw [em_it59]; exact congrArg Int32.toInt (congrFun (u2_row (by omega)) 0)
                  have e64 : (it59 441 2).toInt = (it53 441 2).toInt := by rw [em_it59]; exact congrArg Int32.toInt (congrFun (u2_row (by decide)) 2)
                  have f65 : 0 ≤ (it59 a1 0).toInt ∧ (it59 a1 0).toInt ≤ 6 := i8_3 hI61 (obr ha1)
                  refine ⟨fun c109 => ?_, fun c109 => ?_⟩
                  · try simp only [Int32.lt_iff_toInt_lt, Int32.le_iff_toInt_le, ← Int32.toInt_inj, Int32.toInt_toInt64, ti_m14, ti_m13, ti_m12, ti_m11, ti_m10, ti_m9, ti_m6, ti_m5, ti_m4, ti_m3, ti_m2, ti_m1, ti_0, ti_1, ti_2, ti_3, ti_4, ti_5, ti_6, ti_7, ti_8, ti_9, ti_10, ti_11, ti_12, ti_19, ti_20, ti_21, ti_44, ti_45, ti_48, ti_57, ti_59, ti_60, ti_98, ti_99, ti_100, ti_101, ti_103, ti_108, ti_110, ti_114, ti_127] at c109
                    try have f66 : ((x3 + 1) : Int32).toInt = (x3).toInt + 1 := ad32 (a := (x3).toInt) (b := 1) (rfl) (ti_1) (by omega) (by omega)
                    exact ih14 (x3) ((x3 + 1)) _ _ hI61 hK62 (by refine ⟨?_, ?_, ?_, ?_⟩ <;> first | omega | assumption | exact Or.inl rfl | exact Or.inr rfl | exact i8_1 (by assumption) (by assumption) | decide) (by omega)
                  · try simp only [Int32.lt_iff_toInt_lt, Int32.le_iff_toInt_le, ← Int32.toInt_inj, Int32.toInt_toInt64, ti_m14, ti_m13, ti_m12, ti_m11, ti_m10, ti_m9, ti_m6, ti_m5, ti_m4, ti_m3, ti_m2, ti_m1, ti_0, ti_1, ti_2, ti_3, ti_4, ti_5, ti_6, ti_7, ti_8, ti_9, ti_10, ti_11, ti_12, ti_19, ti_20, ti_21, ti_44, ti_45, ti_48, ti_57, ti_59, ti_60, ti_98, ti_99, ti_100, ti_101, ti_103, ti_108, ti_110, ti_114, ti_127] at c109
                    try have f67 : ((x3 + 1) : Int32).toInt = (x3).toInt + 1 := ad32 (a := (x3).toInt) (b := 1) (rfl) (ti_1) (by omega) (by omega)
                    exact ih14 ((9 : Int32)) ((x3 + 1)) _ _ hI61 hK62 (by refine ⟨?_, ?_, ?_, ?_⟩ <;> first | omega | assumption | exact Or.inl rfl | exact Or.inr rfl | exact i8_1 (by assumption) (by assumption) | decide) (by omega)
                · try simp only [Int32.lt_iff_toInt_lt, Int32.le_iff_toInt_le, ← Int32.toInt_inj, Int32.toInt_toInt64, ti_m14, ti_m13, ti_m12, ti_m11, ti_m10, ti_m9, ti_m6, ti_m5, ti_m4, ti_m3, ti_m2, ti_m1, ti_0, ti_1, ti_2, ti_3, ti_4, ti_5, ti_6, ti_7, ti_8, ti_9, ti_10, ti_11, ti_12, ti_19, ti_20, ti_21, ti_44, ti_45, ti_48, ti_57, ti_59, ti_60, ti_98, ti_99, ti_100, ti_101, ti_103, ti_108, ti_110, ti_114, ti_127] at c78
                  refine ⟨fun c90 => ?_, fun c90 => ?_⟩
                  · try simp only [Int32.lt_iff_toInt_lt, Int32.le_iff_toInt_le, ← Int32.toInt_inj, Int32.toInt_toInt64, ti_m14, ti_m13, ti_m12, ti_m11, ti_m10, ti_m9, ti_m6, ti_m5, ti_m4, ti_m3, ti_m2, ti_m1, ti_0, ti_1, ti_2, ti_3, ti_4, ti_5, ti_6, ti_7, ti_8, ti_9, ti_10, ti_11, ti_12, ti_19, ti_20, ti_21, ti_44, ti_45, ti_48, ti_57, ti_59, ti_60, ti_98, ti_99, ti_100, ti_101, ti_103, ti_108, ti_110, ti_114, ti_127] at c90
                    try have f68 : ((x3 + 1) : Int32).toInt = (x3).toInt + 1 := ad32 (a := (x3).toInt) (b := 1) (rfl) (ti_1) (by omega) (by omega)
                    exact ih14 (x2) ((x3 + 1)) _ _ hI55 hK56 (by refine ⟨?_, ?_, ?_, ?_⟩ <;> first | omega | assumption | exact Or.inl rfl | exact Or.inr rfl | exact i8_1 (by assumption) (by assumption) | decide) (by omega)
                  · try simp only [Int32.lt_iff_toInt_lt, Int32.le_iff_toInt_le, ← Int32.toInt_inj, Int32.toInt_toInt64, ti_m14, ti_m13, ti_m12, ti_m11, ti_m10, ti_m9, ti_m6, ti_m5, ti_m4, ti_m3, ti_m2, ti_m1, ti_0, ti_1, ti_2, ti_3, ti_4, ti_5, ti_6, ti_7, ti_8, ti_9, ti_10, ti_11, ti_12, ti_19, ti_20, ti_21, ti_44, ti_45, ti_48, ti_57, ti_59, ti_60, ti_98, ti_99, ti_100, ti_101, ti_103, ti_108, ti_110, ti_114, ti_127] at c90
                    unfold w_X5_find_b93
                    have hc71 : it53 439 2 &&& 1 = it53 439 2 := ib (i8_1 hI55 (oq_439))
                    refine ⟨hc71, ?_⟩
                    intro lg69 em_lg69 it70 em_it70
                    have hI72 : I8 lg69 it70 := by rw [em_it70]; exact i8_u hI55 (ok8_1 (oq_438) (fun _ => i8_1 hI55 (oq_439)))
                    have hK73 : Kc (fun j => (437 ≤ j ∧ j < 450)) lg0 it0 lg69 it70 := by rw [em_lg69, em_it70]; exact kc_f (by first | omega | (dsimp only; omega)) hK56
                    try have e74 : (it70 a1 0).toInt = (it53 a1 0).toInt := by rw [em_it70]; exact congrArg Int32.toInt (congrFun (u2_row (by omega)) 0)
                    have e75 : (it70 441 2).toInt = (it53 441 2).toInt := by rw [em_it70]; exact congrArg Int32.toInt (congrFun (u2_row (by decide)) 2)
                    have f76 : 0 ≤ (it70 a1 0).toInt ∧ (it70 a1 0).toInt ≤ 6 := i8_3 hI72 (obr ha1)
                    refine ⟨fun c109 => ?_, fun c109 => ?_⟩
                    · try simp only [Int32.lt_iff_toInt_lt, Int32.le_iff_toInt_le, ← Int32.toInt_inj, Int32.toInt_toInt64, ti_m14, ti_m13, ti_m12, ti_m11, ti_m10, ti_m9, ti_m6, ti_m5, ti_m4, ti_m3, ti_m2, ti_m1, ti_0, ti_1, ti_2, ti_3, ti_4, ti_5, ti_6, ti_7, ti_8, ti_9, ti_10, ti_11, ti_12, ti_19, ti_20, ti_21, ti_44, ti_45, ti_48, ti_57, ti_59, ti_60, ti_98, ti_99, ti_100, ti_101, ti_103, ti_108, ti_110, ti_114, ti_127] at c109
                      try have f77 : ((x3 + 1) : Int32).toInt = (x3).toInt + 1 := ad32 (a := (x3).toInt) (b := 1) (rfl) (ti_1) (by omega) (by omega)
                      exact ih14 (x3) ((x3 + 1)) _ _ hI72 hK73 (by refine ⟨?_, ?_, ?_, ?_⟩ <;> first | omega | assumption | exact Or.inl rfl | exact Or.inr rfl | exact i8_1 (by assumption) (by assumption) | decide) (by omega)
                    · try simp only [Int32.lt_iff_toInt_lt, Int32.le_iff_toInt_le, ← Int32.toInt_inj, Int32.toInt_toInt64, ti_m14, ti_m13, ti_m12, ti_m11, ti_m10, ti_m9, ti_m6, ti_m5, ti_m4, ti_m3, ti_m2, ti_m1, ti_0, ti_1, ti_2, ti_3, ti_4, ti_5, ti_6, ti_7, ti_8, ti_9, ti_10, ti_11, ti_12, ti_19, ti_20, ti_21, ti_44, ti_45, ti_48, ti_57, ti_59, ti_60, ti_98, ti_99, ti_100, ti_101, ti_103, ti_108, ti_110, ti_114, ti_127] at c109
                      try have f78 : ((x3 + 1) : Int32).toInt = (x3).toInt + 1 := ad32 (a := (x3).toInt) (b := 1) (rfl) (ti_1) (by omega) (by omega)
                      exact ih14 ((9 : Int32)) ((x3 + 1)) _ _ hI72 hK73 (by refine ⟨?_, ?_, ?_, ?_⟩ <;> first | omega | assumption | exact Or.inl rfl | exact Or.inr rfl | exact i8_1 (by assumption) (by assumption) | decide) (by omega)
              · try simp only [Int32.lt_iff_toInt_lt, Int32.le_iff_toInt_le, ← Int32.toInt_inj, Int32.toInt_toInt64, ti_m14, ti_m13, ti_m12, ti_m11, ti_m10, ti_m9, ti_m6, ti_m5, ti_m4, ti_m3, ti_m2, ti_m1, ti_0, ti_1, ti_2, ti_3, ti_4, ti_5, ti_6, ti_7, ti_8, ti_9, ti_10, ti_11, ti_12, ti_19, ti_20, ti_21, ti_44, ti_45, ti_48, ti_57, ti_59, ti_60, ti_98, ti_99, ti_100, ti_101, ti_103, ti_108, ti_110, ti_114, ti_127] at c69
                subst hp
                exact ⟨⟨hI55, hK56⟩, by have tm5 := ti_m5; have tm6 := ti_m6; omega⟩
            · try simp only [Int32.lt_iff_toInt_lt, Int32.le_iff_toInt_le, ← Int32.toInt_inj, Int32.toInt_toInt64, ti_m14, ti_m13, ti_m12, ti_m11, ti_m10, ti_m9, ti_m6, ti_m5, ti_m4, ti_m3, ti_m2, ti_m1, ti_0, ti_1, ti_2, ti_3, ti_4, ti_5, ti_6, ti_7, ti_8, ti_9, ti_10, ti_11, ti_12, ti_19, ti_20, ti_21, ti_44, ti_45, ti_48, ti_57, ti_59, ti_60, ti_98, ti_99, ti_100, ti_101, ti_103, ti_108, ti_110, ti_114, ti_127] at c48
              intro q79 em_q79 lg80 em_lg80 it81 em_it81
              have hI82 : I8 lg80 it81 := by rw [em_it81]; exact i8_u hI55 (ok8_1 (oq_441) (fun _ => by rw [em_q79]; exact stF_01 _ _ _ _ _))
              have hK83 : Kc (fun j => (437 ≤ j ∧ j < 450)) lg0 it0 lg80 it81 := by rw [em_lg80, em_it81]; exact kc_f (by first | omega | (dsimp only; omega)) hK56
              try have e84 : (it81 a1 0).toInt = (it53 a1 0).toInt := by rw [em_it81]; exact congrArg Int32.toInt (congrFun (u2_row (by omega)) 0)
              unfold w_X5_find_b62
              refine ⟨fun c69 => ?_, fun c69 => ?_⟩
              · try simp only [Int32.lt_iff_toInt_lt, Int32.le_iff_toInt_le, ← Int32.toInt_inj, Int32.toInt_toInt64, ti_m14, ti_m13, ti_m12, ti_m11, ti_m10, ti_m9, ti_m6, ti_m5, ti_m4, ti_m3, ti_m2, ti_m1, ti_0, ti_1, ti_2, ti_3, ti_4, ti_5, ti_6, ti_7, ti_8, ti_9, ti_10, ti_11, ti_12, ti_19, ti_20, ti_21, ti_44, ti_45, ti_48, ti_57, ti_59, ti_60, ti_98, ti_99, ti_100, ti_101, ti_103, ti_108, ti_110, ti_114, ti_127] at c69
                refine ⟨fun c78 => ?_, fun c78 => ?_⟩
                · try simp only [Int32.lt_iff_toInt_lt, Int32.le_iff_toInt_le, ← Int32.toInt_inj, Int32.toInt_toInt64, ti_m14, ti_m13, ti_m12, ti_m11, ti_m10, ti_m9, ti_m6, ti_m5, ti_m4, ti_m3, ti_m2, ti_m1, ti_0, ti_1, ti_2, ti_3, ti_4, ti_5, ti_6, ti_7, ti_8, ti_9, ti_10, ti_11, ti_12, ti_19, ti_20, ti_21, ti_44, ti_45, ti_48, ti_57, ti_59, ti_60, ti_98, ti_99, ti_100, ti_101, ti_103, ti_108, ti_110, ti_114, ti_127] at c78
                  unfold w_X5_find_b93
                  have hc87 : it81 439 2 &&& 1 = it81 439 2 := ib (i8_1 hI82 (oq_439))
                  refine ⟨hc87, ?_⟩
                  intro lg85 em_lg85 it86 em_it86
                  have hI88 : I8 lg85 it86 := by rw [em_it86]; exact i8_u hI82 (ok8_1 (oq_438) (fun _ => i8_1 hI82 (oq_439)))
                  have hK89 : Kc (fun j => (437 ≤ j ∧ j < 450)) lg0 it0 lg85 it86 := by rw [em_lg85, em_it86]; exact kc_f (by first | omega | (dsimp only; omega)) hK83
                  try have e90 : (it86 a1 0).toInt = (it81 a1 0).toInt := by rw [em_it86]; exact congrArg Int32.toInt (congrFun (u2_row (by omega)) 0)
                  have e91 : (it86 441 2).toInt = (it81 441 2).toInt := by rw [em_it86]; exact congrArg Int32.toInt (congrFun (u2_row (by decide)) 2)
                  have f92 : 0 ≤ (it86 a1 0).toInt ∧ (it86 a1 0).toInt ≤ 6 := i8_3 hI88 (obr ha1)
                  refine ⟨fun c109 => ?_, fun c109 => ?_⟩
                  · try simp only [Int32.lt_iff_toInt_lt, Int32.le_iff_toInt_le, ← Int32.toInt_inj, Int32.toInt_toInt64, ti_m14, ti_m13, ti_m12, ti_m11, ti_m10, ti_m9, ti_m6, ti_m5, ti_m4, ti_m3, ti_m2, ti_m1, ti_0, ti_1, ti_2, ti_3, ti_4, ti_5, ti_6, ti_7, ti_8, ti_9, ti_10, ti_11, ti_12, ti_19, ti_20, ti_21, ti_44, ti_45, ti_48, ti_57, ti_59, ti_60, ti_98, ti_99, ti_100, ti_101, ti_103, ti_108, ti_110, ti_114, ti_127] at c109
                    try have f93 : ((x3 + 1) : Int32).toInt = (x3).toInt + 1 := ad32 (a := (x3).toInt) (b := 1) (rfl) (ti_1) (by omega) (by omega)
                    exact ih14 (x3) ((x3 + 1)) _ _ hI88 hK89 (by refine ⟨?_, ?_, ?_, ?_⟩ <;> first | omega | assumption | exact Or.inl rfl | exact Or.inr rfl | exact i8_1 (by assumption) (by assumption) | decide) (by omega)
                  · try simp only [Int32.lt_iff_toInt_lt, Int32.le_iff_toInt_le, ← Int32.toInt_inj, Int32.toInt_toInt64, ti_m14, ti_m13, ti_m12, ti_m11, ti_m10, ti_m9, ti_m6, ti_m5, ti_m4, ti_m3, ti_m2, ti_m1, ti_0, ti_1, ti_2, ti_3, ti_4, ti_5, ti_6, ti_7, ti_8, ti_9, ti_10, ti_11, ti_12, ti_19, ti_20, ti_21, ti_44, ti_45, ti_48, ti_57, ti_59, ti_60, ti_98, ti_99, ti_100, ti_101, ti_103, ti_108, ti_110, ti_114, ti_127] at c109
                    try have f94 : ((x3 + 1) : Int32).toInt = (x3).toInt + 1 := ad32 (a := (x3).toInt) (b := 1) (rfl) (ti_1) (by omega) (by omega)
                    exact ih14 ((9 : Int32)) ((x3 + 1)) _ _ hI88 hK89 (by refine ⟨?_, ?_, ?_, ?_⟩ <;> first | omega | assumption | exact Or.inl rfl | exact Or.inr rfl | exact i8_1 (by assumption) (by assumption) | decide) (by omega)
                · try simp only [Int32.lt_iff_toInt_lt, Int32.le_iff_toInt_le, ← Int32.toInt_inj, Int32.toInt_toInt64, ti_m14, ti_m13, ti_m12, ti_m11, ti_m10, ti_m9, ti_m6, ti_m5, ti_m4, ti_m3, ti_m2, ti_m1, ti_0, ti_1, ti_2, ti_3, ti_4, ti_5, ti_6, ti_7, ti_8, ti_9, ti_10, ti_11, ti_12, ti_19, ti_20, ti_21, ti_44, ti_45, ti_48, ti_57, ti_59, ti_60, ti_98, ti_99, ti_100, ti_101, ti_103, ti_108, ti_110, ti_114, ti_127] at c78
                  refine ⟨fun c90 => ?_, fun c90 => ?_⟩
                  · try simp only [Int32.lt_iff_toInt_lt, Int32.le_iff_toInt_le, ← Int32.toInt_inj, Int32.toInt_toInt64, ti_m14, ti_m13, ti_m12, ti_m11, ti_m10, ti_m9, ti_m6, ti_m5, ti_m4, ti_m3, ti_m2, ti_m1, ti_0, ti_1, ti_2, ti_3, ti_4, ti_5, ti_6, ti_7, ti_8, ti_9, ti_10, ti_11, ti_12, ti_19, ti_20, ti_21, ti_44, ti_45, ti_48, ti_57, ti_59, ti_60, ti_98, ti_99, ti_100, ti_101, ti_103, ti_108, ti_110, ti_114, ti_127] at c90
                    try have f95 : ((x3 + 1) : Int32).toInt = (x3).toInt + 1 := ad32 (a := (x3).toInt) (b := 1) (rfl) (ti_1) (by omega) (by omega)
                    exact ih14 (x2) ((x3 + 1)) _ _ hI82 hK83 (by refine ⟨?_, ?_, ?_, ?_⟩ <;> first | omega | assumption | exact Or.inl rfl | exact Or.inr rfl | exact i8_1 (by assumption) (by assumption) | decide) (by omega)
                  · try simp only [Int32.lt_iff_toInt_lt, Int32.le_iff_toInt_le, ← Int32.toInt_inj, Int32.toInt_toInt64, ti_m14, ti_m13, ti_m12, ti_m11, ti_m10, ti_m9, ti_m6, ti_m5, ti_m4, ti_m3, ti_m2, ti_m1, ti_0, ti_1, ti_2, ti_3, ti_4, ti_5, ti_6, ti_7, ti_8, ti_9, ti_10, ti_11, ti_12, ti_19, ti_20, ti_21, ti_44, ti_45, ti_48, ti_57, ti_59, ti_60, ti_98, ti_99, ti_100, ti_101, ti_103, ti_108, ti_110, ti_114, ti_127] at c90
                    unfold w_X5_find_b93
                    have hc98 : it81 439 2 &&& 1 = it81 439 2 := ib (i8_1 hI82 (oq_439))
                    refine ⟨hc98, ?_⟩
                    intro lg96 em_lg96 it97 em_it97
                    have hI99 : I8 lg96 it97 := by rw [em_it97]; exact i8_u hI82 (ok8_1 (oq_438) (fun _ => i8_1 hI82 (oq_439)))
                    have hK100 : Kc (fun j => (437 ≤ j ∧ j < 450)) lg0 it0 lg96 it97 := by rw [em_lg96, em_it97]; exact kc_f (by first | omega | (dsimp only; omega)) hK83
                    try have e101 : (it97 a1 0).toInt = (it81 a1 0).toInt := by rw [em_it97]; exact congrArg Int32.toInt (congrFun (u2_row (by omega)) 0)
                    have e102 : (it97 441 2).toInt = (it81 441 2).toInt := by rw [em_it97]; exact congrArg Int32.toInt (congrFun (u2_row (by decide)) 2)
                    have f103 : 0 ≤ (it97 a1 0).toInt ∧ (it97 a1 0).toInt ≤ 6 := i8_3 hI99 (obr ha1)
                    refine ⟨fun c109 => ?_, fun c109 => ?_⟩
                    · try simp only [Int32.lt_iff_toInt_lt, Int32.le_iff_toInt_le, ← Int32.toInt_inj, Int32.toInt_toInt64, ti_m14, ti_m13, ti_m12, ti_m11, ti_m10, ti_m9, ti_m6, ti_m5, ti_m4, ti_m3, ti_m2, ti_m1, ti_0, ti_1, ti_2, ti_3, ti_4, ti_5, ti_6, ti_7, ti_8, ti_9, ti_10, ti_11, ti_12, ti_19, ti_20, ti_21, ti_44, ti_45, ti_48, ti_57, ti_59, ti_60, ti_98, ti_99, ti_100, ti_101, ti_103, ti_108, ti_110, ti_114, ti_127] at c109
                      try have f104 : ((x3 + 1) : Int32).toInt = (x3).toInt + 1 := ad32 (a := (x3).toInt) (b := 1) (rfl) (ti_1) (by omega) (by omega)
                      exact ih14 (x3) ((x3 + 1)) _ _ hI99 hK100 (by refine ⟨?_, ?_, ?_, ?_⟩ <;> first | omega | assumption | exact Or.inl rfl | exact Or.inr rfl | exact i8_1 (by assumption) (by assumption) | decide) (by omega)
                    · try simp only [Int32.lt_iff_toInt_lt, Int32.le_iff_toInt_le, ← Int32.toInt_inj, Int32.toInt_toInt64, ti_m14, ti_m13, ti_m12, ti_m11, ti_m10, ti_m9, ti_m6, ti_m5, ti_m4, ti_m3, ti_m2, ti_m1, ti_0, ti_1, ti_2, ti_3, ti_4, ti_5, ti_6, ti_7, ti_8, ti_9, ti_10, ti_11, ti_12, ti_19, ti_20, ti_21, ti_44, ti_45, ti_48, ti_57, ti_59, ti_60, ti_98, ti_99, ti_100, ti_101, ti_103, ti_108, ti_110, ti_114, ti_127] at c109
                      try have f105 : ((x3 + 1) : Int32).toInt = (x3).toInt + 1 := ad32 (a := (x3).toInt) (b := 1) (rfl) (ti_1) (by omega) (by omega)
                      exact ih14 ((9 : Int32)) ((x3 + 1)) _ _ hI99 hK100 (by refine ⟨?_, ?_, ?_, ?_⟩ <;> first | omega | assumption | exact Or.inl rfl | exact Or.inr rfl | exact i8_1 (by assumption) (by assumption) | decide) (by omega)
              · try simp only [Int32.lt_iff_toInt_lt, Int32.le_iff_toInt_le, ← Int32.toInt_inj, Int32.toInt_toInt64, ti_m14, ti_m13, ti_m12, ti_m11, ti_m10, ti_m9, ti_m6, ti_m5, ti_m4, ti_m3, ti_m2, ti_m1, ti_0, ti_1, ti_2, ti_3, ti_4, ti_5, ti_6, ti_7, ti_8, ti_9, ti_10, ti_11, ti_12, ti_19, ti_20, ti_21, ti_44, ti_45, ti_48, ti_57, ti_59, ti_60, ti_98, ti_99, ti_100, ti_101, ti_103, ti_108, ti_110, ti_114, ti_127] at c69
                subst hp
                exact ⟨⟨hI82, hK83⟩, by have tm5 := ti_m5; have tm6 := ti_m6; omega⟩
          · try simp only [Int32.lt_iff_toInt_lt, Int32.le_iff_toInt_le, ← Int32.toInt_inj, Int32.toInt_toInt64, ti_m14, ti_m13, ti_m12, ti_m11, ti_m10, ti_m9, ti_m6, ti_m5, ti_m4, ti_m3, ti_m2, ti_m1, ti_0, ti_1, ti_2, ti_3, ti_4, ti_5, ti_6, ti_7, ti_8, ti_9, ti_10, ti_11, ti_12, ti_19, ti_20, ti_21, ti_44, ti_45, ti_48, ti_57, ti_59, ti_60, ti_98, ti_99, ti_100, ti_101, ti_103, ti_108, ti_110, ti_114, ti_127] at c28
            try have f106 : ((x3 + 1) : Int32).toInt = (x3).toInt + 1 := ad32 (a := (x3).toInt) (b := 1) (rfl) (ti_1) (by omega) (by omega)
            exact ih14 (x2) ((x3 + 1)) _ _ hI46 hK48 (by refine ⟨?_, ?_, ?_, ?_⟩ <;> first | omega | assumption | exact Or.inl rfl | exact Or.inr rfl | exact i8_1 (by assumption) (by assumption) | decide) (by omega)
    have t107 := ti_m5
    have t108 := ti_0
    exact ⟨_, lp14 ((8 - ((0 : Int32)).toInt).toNat + 1) (((-5) : Int32)) ((0 : Int32)) _ _ hI hKr (by refine ⟨?_, ?_, ?_, ?_⟩ <;> first | omega | assumption | exact Or.inl rfl | exact Or.inr rfl | exact i8_1 (by assumption) (by assumption) | decide) (Nat.lt_succ_self _)⟩
  · try simp only [Int32.lt_iff_toInt_lt, Int32.le_iff_toInt_le, ← Int32.toInt_inj, Int32.toInt_toInt64, ti_m14, ti_m13, ti_m12, ti_m11, ti_m10, ti_m9, ti_m6, ti_m5, ti_m4, ti_m3, ti_m2, ti_m1, ti_0, ti_1, ti_2, ti_3, ti_4, ti_5, ti_6, ti_7, ti_8, ti_9, ti_10, ti_11, ti_12, ti_19, ti_20, ti_21, ti_44, ti_45, ti_48, ti_57, ti_59, ti_60, ti_98, ti_99, ti_100, ti_101, ti_103, ti_108, ti_110, ti_114, ti_127] at c7
    subst hp
    exact ⟨⟨hI, hKr⟩, by have tm5 := ti_m5; have tm6 := ti_m6; omega⟩
set_option maxRecDepth 100000 in
theorem s_X5_rebound {a1 : Nat} (ha1 : Ob NT a1 1) (a2 : Int32) {lg0 : LGt} {it0 : ITt} (hI : I8 lg0 it0) : w_X5_rebound a1 a2 (fun (v : Int32) (lg' : LGt) (it' : ITt) => (I8 lg' it' ∧ Kc (fun j => (437 ≤ j ∧ j < 450) ∨ (a1 ≤ j ∧ j < a1 + 1)) lg0 it0 lg' it') ∧ (v = 0 ∨ v = 1))  lg0 it0 := by
  have hb_a2 := And.intro a2.le_toInt a2.toInt_lt
  have hKr : Kc (fun j => (437 ≤ j ∧ j < 450) ∨ (a1 ≤ j ∧ j < a1 + 1)) lg0 it0 lg0 it0 := kc_r
  generalize hp : (fun (v : Int32) (lg' : LGt) (it' : ITt) => (I8 lg' it' ∧ Kc (fun j => (437 ≤ j ∧ j < 450) ∨ (a1 ≤ j ∧ j < a1 + 1)) lg0 it0 lg' it') ∧ (v = 0 ∨ v = 1)) = Pz
  unfold w_X5_rebound
  intro q23 em_q23 lg24 em_lg24 it25 em_it25
  have hI26 : I8 lg24 it25 := by rw [em_it25]; exact i8_u hI (ok8_1 (oq_443) (fun _ => by rw [em_q23]; exact stF_01 _ _ _ _ _))
  have hK27 : Kc (fun j => (437 ≤ j ∧ j < 450) ∨ (a1 ≤ j ∧ j < a1 + 1)) lg0 it0 lg24 it25 := by rw [em_lg24, em_it25]; exact kc_f (by first | omega | (dsimp only; omega)) hKr
  have hc30 : it25 a1 2 &&& 1 = it25 a1 2 := ib (i8_1 hI26 (ha1))
  refine ⟨hc30, ?_⟩
  intro lg28 em_lg28 it29 em_it29
  have hI31 : I8 lg28 it29 := by rw [em_it29]; exact i8_u hI26 (ok8_1 (oq_442) (fun _ => i8_1 hI26 (ha1)))
  have hK32 : Kc (fun j => (437 ≤ j ∧ j < 450) ∨ (a1 ≤ j ∧ j < a1 + 1)) lg0 it0 lg28 it29 := by rw [em_lg28, em_it29]; exact kc_f (by first | omega | (dsimp only; omega)) hK27
  intro q33 em_q33 lg34 em_lg34 it35 em_it35
  have hI36 : I8 lg34 it35 := by rw [em_it35]; exact i8_u hI31 (ok8_1 (oq_442) (fun _ => by rw [em_q33]; exact stF_01 _ _ _ _ _))
  have hK37 : Kc (fun j => (437 ≤ j ∧ j < 450) ∨ (a1 ≤ j ∧ j < a1 + 1)) lg0 it0 lg34 it35 := by rw [em_lg34, em_it35]; exact kc_f (by first | omega | (dsimp only; omega)) hK32
  intro lg38 em_lg38 it39 em_it39
  have hI40 : I8 lg38 it39 := by rw [em_it39]; exact i8_u hI36 (ok8_1 (ha1) (fun _ => Or.inl rfl))
  have hK41 : Kc (fun j => (437 ≤ j ∧ j < 450) ∨ (a1 ≤ j ∧ j < a1 + 1)) lg0 it0 lg38 it39 := by rw [em_lg38, em_it39]; exact kc_f (by first | omega | (dsimp only; omega)) hK37
  intro q42 em_q42 lg43 em_lg43 it44 em_it44
  have hI45 : I8 lg43 it44 := by rw [em_it44]; exact i8_u hI40 (ok8_1 (ha1) (fun _ => by rw [em_q42]; exact stF_01 _ _ _ _ _))
  have hK46 : Kc (fun j => (437 ≤ j ∧ j < 450) ∨ (a1 ≤ j ∧ j < a1 + 1)) lg0 it0 lg43 it44 := by rw [em_lg43, em_it44]; exact kc_f (by first | omega | (dsimp only; omega)) hK41
  refine ⟨fun c48 => ?_, fun c48 => ?_⟩
  · try simp only [Int32.lt_iff_toInt_lt, Int32.le_iff_toInt_le, ← Int32.toInt_inj, Int32.toInt_toInt64, ti_m14, ti_m13, ti_m12, ti_m11, ti_m10, ti_m9, ti_m6, ti_m5, ti_m4, ti_m3, ti_m2, ti_m1, ti_0, ti_1, ti_2, ti_3, ti_4, ti_5, ti_6, ti_7, ti_8, ti_9, ti_10, ti_11, ti_12, ti_19, ti_20, ti_21, ti_44, ti_45, ti_48, ti_57, ti_59, ti_60, ti_98, ti_99, ti_100, ti_101, ti_103, ti_108, ti_110, ti_114, ti_127] at c48
    subst hp
    exact ⟨⟨hI45, hK46⟩, by first | exact Or.inl rfl | exact Or.inr rfl | assumption⟩
  · try simp only [Int32.lt_iff_toInt_lt, Int32.le_iff_toInt_le, ← Int32.toInt_inj, Int32.toInt_toInt64, ti_m14, ti_m13, ti_m12, ti_m11, ti_m10, ti_m9, ti_m6, ti_m5, ti_m4, ti_m3, ti_m2, ti_m1, ti_0, ti_1, ti_2, ti_3, ti_4, ti_5, ti_6, ti_7, ti_8, ti_9, ti_10, ti_11, ti_12, ti_19, ti_20, ti_21, ti_44, ti_45, ti_48, ti_57, ti_59, ti_60, ti_98, ti_99, ti_100, ti_101, ti_103, ti_108, ti_110, ti_114, ti_127] at c48
    subst hp
    exact ⟨⟨hI45, hK46⟩, by first | exact Or.inl rfl | exact Or.inr rfl | assumption⟩
set_option maxRecDepth 100000 in
theorem s_X5_collide {a1 : Nat} (ha1 : a1 ∈ rb) (a2 : Int32) (a3 : Int32) {lg0 : LGt} {it0 : ITt} (hI : I8 lg0 it0) (hl : 0 ≤ a2.toInt ∧ a2.toInt ≤ 5) (hr : 0 ≤ a3.toInt ∧ a3.toInt ≤ 5) : w_X5_collide a1 a2 a3 (fun (v : Int32) (lg' : LGt) (it' : ITt) => (I8 lg' it' ∧ Kc (fun j => (437 ≤ j ∧ j < 450) ∨ (a1 ≤ j ∧ j < a1 + 17)) lg0 it0 lg' it') ∧ (v = 0 ∨ v = 1))  lg0 it0 := by
  have hb_a2 := And.intro a2.le_toInt a2.toInt_lt
  have hb_a3 := And.intro a3.le_toInt a3.toInt_lt
  have hKr : Kc (fun j => (437 ≤ j ∧ j < 450) ∨ (a1 ≤ j ∧ j < a1 + 17)) lg0 it0 lg0 it0 := kc_r
  generalize hp : (fun (v : Int32) (lg' : LGt) (it' : ITt) => (I8 lg' it' ∧ Kc (fun j => (437 ≤ j ∧ j < 450) ∨ (a1 ≤ j ∧ j < a1 + 17)) lg0 it0 lg' it') ∧ (v = 0 ∨ v = 1)) = Pz
  unfold w_X5_collide
  have hi113 : vp_in a2 6 := vp_of (by first | omega | ((try simp only [Int32.lt_iff_toInt_lt, Int32.le_iff_toInt_le, ← Int32.toInt_inj, Int32.toInt_toInt64, ti_m14, ti_m13, ti_m12, ti_m11, ti_m10, ti_m9, ti_m6, ti_m5, ti_m4, ti_m3, ti_m2, ti_m1, ti_0, ti_1, ti_2, ti_3, ti_4, ti_5, ti_6, ti_7, ti_8, ti_9, ti_10, ti_11, ti_12, ti_19, ti_20, ti_21, ti_44, ti_45, ti_48, ti_57, ti_59, ti_60, ti_98, ti_99, ti_100, ti_101, ti_103, ti_108, ti_110, ti_114, ti_127]); omega) | (split <;> omega)) (by first | omega | ((try simp only [Int32.lt_iff_toInt_lt, Int32.le_iff_toInt_le, ← Int32.toInt_inj, Int32.toInt_toInt64, ti_m14, ti_m13, ti_m12, ti_m11, ti_m10, ti_m9, ti_m6, ti_m5, ti_m4, ti_m3, ti_m2, ti_m1, ti_0, ti_1, ti_2, ti_3, ti_4, ti_5, ti_6, ti_7, ti_8, ti_9, ti_10, ti_11, ti_12, ti_19, ti_20, ti_21, ti_44, ti_45, ti_48, ti_57, ti_59, ti_60, ti_98, ti_99, ti_100, ti_101, ti_103, ti_108, ti_110, ti_114, ti_127]); omega) | (split <;> omega))
  refine ⟨hi113, ?_⟩
  have hz114 := vlt hi113
  have hi115 : vp_in a3 6 := vp_of (by first | omega | ((try simp only [Int32.lt_iff_toInt_lt, Int32.le_iff_toInt_le, ← Int32.toInt_inj, Int32.toInt_toInt64, ti_m14, ti_m13, ti_m12, ti_m11, ti_m10, ti_m9, ti_m6, ti_m5, ti_m4, ti_m3, ti_m2, ti_m1, ti_0, ti_1, ti_2, ti_3, ti_4, ti_5, ti_6, ti_7, ti_8, ti_9, ti_10, ti_11, ti_12, ti_19, ti_20, ti_21, ti_44, ti_45, ti_48, ti_57, ti_59, ti_60, ti_98, ti_99, ti_100, ti_101, ti_103, ti_108, ti_110, ti_114, ti_127]); omega) | (split <;> omega)) (by first | omega | ((try simp only [Int32.lt_iff_toInt_lt, Int32.le_iff_toInt_le, ← Int32.toInt_inj, Int32.toInt_toInt64, ti_m14, ti_m13, ti_m12, ti_m11, ti_m10, ti_m9, ti_m6, ti_m5, ti_m4, ti_m3, ti_m2, ti_m1, ti_0, ti_1, ti_2, ti_3, ti_4, ti_5, ti_6, ti_7, ti_8, ti_9, ti_10, ti_11, ti_12, ti_19, ti_20, ti_21, ti_44, ti_45, ti_48, ti_57, ti_59, ti_60, ti_98, ti_99, ti_100, ti_101, ti_103, ti_108, ti_110, ti_114, ti_127]); omega) | (split <;> omega))
  refine ⟨hi115, ?_⟩
  have hz116 := vlt hi115
  have hi117 : vp_in a2 6 := vp_of (by first | omega | ((try simp only [Int32.lt_iff_toInt_lt, Int32.le_iff_toInt_le, ← Int32.toInt_inj, Int32.toInt_toInt64, ti_m14, ti_m13, ti_m12, ti_m11, ti_m10, ti_m9, ti_m6, ti_m5, ti_m4, ti_m3, ti_m2, ti_m1, ti_0, ti_1, ti_2, ti_3, ti_4, ti_5, ti_6, ti_7, ti_8, ti_9, ti_10, ti_11, ti_12, ti_19, ti_20, ti_21, ti_44, ti_45, ti_48, ti_57, ti_59, ti_60, ti_98, ti_99, ti_100, ti_101, ti_103, ti_108, ti_110, ti_114, ti_127]); omega) | (split <;> omega)) (by first | omega | ((try simp only [Int32.lt_iff_toInt_lt, Int32.le_iff_toInt_le, ← Int32.toInt_inj, Int32.toInt_toInt64, ti_m14, ti_m13, ti_m12, ti_m11, ti_m10, ti_m9, ti_m6, ti_m5, ti_m4, ti_m3, ti_m2, ti_m1, ti_0, ti_1, ti_2, ti_3, ti_4, ti_5, ti_6, ti_7, ti_8, ti_9, ti_10, ti_11, ti_12, ti_19, ti_20, ti_21, ti_44, ti_45, ti_48, ti_57, ti_59, ti_60, ti_98, ti_99, ti_100, ti_101, ti_103, ti_108, ti_110, ti_114, ti_127]); omega) | (split <;> omega))
  refine ⟨hi117, ?_⟩
  have hz118 := vlt hi117
  intro lg119 em_lg119 it120 em_it120
  have hI121 : I8 lg119 it120 := by rw [em_it120]; exact i8_u hI (ok8_1 (oq_447) (fun _ => Or.inl rfl))
  have hK122 : Kc (fun j => (437 ≤ j ∧ j < 450) ∨ (a1 ≤ j ∧ j < a1 + 17)) lg0 it0 lg119 it120 := by rw [em_lg119, em_it120]; exact kc_f (by first | omega | (dsimp only; omega)) hKr
  have hi123 : vp_in a3 6 := vp_of (by first | omega | ((try simp only [Int32.lt_iff_toInt_lt, Int32.le_iff_toInt_le, ← Int32.toInt_inj, Int32.toInt_toInt64, ti_m14, ti_m13, ti_m12, ti_m11, ti_m10, ti_m9, ti_m6, ti_m5, ti_m4, ti_m3, ti_m2, ti_m1, ti_0, ti_1, ti_2, ti_3, ti_4, ti_5, ti_6, ti_7, ti_8, ti_9, ti_10, ti_11, ti_12, ti_19, ti_20, ti_21, ti_44, ti_45, ti_48, ti_57, ti_59, ti_60, ti_98, ti_99, ti_100, ti_101, ti_103, ti_108, ti_110, ti_114, ti_127]); omega) | (split <;> omega)) (by first | omega | ((try simp only [Int32.lt_iff_toInt_lt, Int32.le_iff_toInt_le, ← Int32.toInt_inj, Int32.toInt_toInt64, ti_m14, ti_m13, ti_m12, ti_m11, ti_m10, ti_m9, ti_m6, ti_m5, ti_m4, ti_m3, ti_m2, ti_m1, ti_0, ti_1, ti_2, ti_3, ti_4, ti_5, ti_6, ti_7, ti_8, ti_9, ti_10, ti_11, ti_12, ti_19, ti_20, ti_21, ti_44, ti_45, ti_48, ti_57, ti_59, ti_60, ti_98, ti_99, ti_100, ti_101, ti_103, ti_108, ti_110, ti_114, ti_127]); omega) | (split <;> omega))
  refine ⟨hi123, ?_⟩
  have hz124 := vlt hi123
  intro lg125 em_lg125 it126 em_it126
  have hI127 : I8 lg125 it126 := by rw [em_it126]; exact i8_u hI121 (ok8_1 (oq_448) (fun _ => Or.inl rfl))
  have hK128 : Kc (fun j => (437 ≤ j ∧ j < 450) ∨ (a1 ≤ j ∧ j < a1 + 17)) lg0 it0 lg125 it126 := by rw [em_lg125, em_it126]; exact kc_f (by first | omega | (dsimp only; omega)) hK122
  have hi129 : vp_in a2 6 := vp_of (by first | omega | ((try simp only [Int32.lt_iff_toInt_lt, Int32.le_iff_toInt_le, ← Int32.toInt_inj, Int32.toInt_toInt64, ti_m14, ti_m13, ti_m12, ti_m11, ti_m10, ti_m9, ti_m6, ti_m5, ti_m4, ti_m3, ti_m2, ti_m1, ti_0, ti_1, ti_2, ti_3, ti_4, ti_5, ti_6, ti_7, ti_8, ti_9, ti_10, ti_11, ti_12, ti_19, ti_20, ti_21, ti_44, ti_45, ti_48, ti_57, ti_59, ti_60, ti_98, ti_99, ti_100, ti_101, ti_103, ti_108, ti_110, ti_114, ti_127]); omega) | (split <;> omega)) (by first | omega | ((try simp only [Int32.lt_iff_toInt_lt, Int32.le_iff_toInt_le, ← Int32.toInt_inj, Int32.toInt_toInt64, ti_m14, ti_m13, ti_m12, ti_m11, ti_m10, ti_m9, ti_m6, ti_m5, ti_m4, ti_m3, ti_m2, ti_m1, ti_0, ti_1, ti_2, ti_3, ti_4, ti_5, ti_6, ti_7, ti_8, ti_9, ti_10, ti_11, ti_12, ti_19, ti_20, ti_21, ti_44, ti_45, ti_48, ti_57, ti_59, ti_60, ti_98, ti_99, ti_100, ti_101, ti_103, ti_108, ti_110, ti_114, ti_127]); omega) | (split <;> omega))
  refine ⟨hi129, ?_⟩
  have hz130 := vlt hi129
  have hi131 : vp_in a3 6 := vp_of (by first | omega | ((try simp only [Int32.lt_iff_toInt_lt, Int32.le_iff_toInt_le, ← Int32.toInt_inj, Int32.toInt_toInt64, ti_m14, ti_m13, ti_m12, ti_m11, ti_m10, ti_m9, ti_m6, ti_m5, ti_m4, ti_m3, ti_m2, ti_m1, ti_0, ti_1, ti_2, ti_3, ti_4, ti_5, ti_6, ti_7, ti_8, ti_9, ti_10, ti_11, ti_12, ti_19, ti_20, ti_21, ti_44, ti_45, ti_48, ti_57, ti_59, ti_60, ti_98, ti_99, ti_100, ti_101, ti_103, ti_108, ti_110, ti_114, ti_127]); omega) | (split <;> omega)) (by first | omega | ((try simp only [Int32.lt_iff_toInt_lt, Int32.le_iff_toInt_le, ← Int32.toInt_inj, Int32.toInt_toInt64, ti_m14, ti_m13, ti_m12, ti_m11, ti_m10, ti_m9, ti_m6, ti_m5, ti_m4, ti_m3, ti_m2, ti_m1, ti_0, ti_1, ti_2, ti_3, ti_4, ti_5, ti_6, ti_7, ti_8, ti_9, ti_10, ti_11, ti_12, ti_19, ti_20, ti_21, ti_44, ti_45, ti_48, ti_57, ti_59, ti_60, ti_98, ti_99, ti_100, ti_101, ti_103, ti_108, ti_110, ti_114, ti_127]); omega) | (split <;> omega))
  refine ⟨hi131, ?_⟩
  have hz132 := vlt hi131
  try have f133 : (((it126 (a1 + 1) a2.toNatClampNeg) + (it126 (a1 + 1) a3.toNatClampNeg)) : Int32).toInt = ((it126 (a1 + 1) a2.toNatClampNeg)).toInt + ((it126 (a1 + 1) a3.toNatClampNeg)).toInt := ad32 (a := ((it126 (a1 + 1) a2.toNatClampNeg)).toInt) (b := ((it126 (a1 + 1) a3.toNatClampNeg)).toInt) (rfl) (rfl) (by omega) (by omega)
  intro lg134 em_lg134 it135 em_it135
  have hI136 : I8 lg134 it135 := by rw [em_it135]; exact i8_u hI127 (ok8_1 (oq_449) (fun _ => Or.inl rfl))
  have hK137 : Kc (fun j => (437 ≤ j ∧ j < 450) ∨ (a1 ≤ j ∧ j < a1 + 17)) lg0 it0 lg134 it135 := by rw [em_lg134, em_it135]; exact kc_f (by first | omega | (dsimp only; omega)) hK128
  intro q138 em_q138 lg139 em_lg139 it140 em_it140
  have hI141 : I8 lg139 it140 := by rw [em_it140]; exact i8_u hI136 (ok8_1 (oq_443) (fun _ => by rw [em_q138]; exact stF_01 _ _ _ _ _))
  have hK142 : Kc (fun j => (437 ≤ j ∧ j < 450) ∨ (a1 ≤ j ∧ j < a1 + 17)) lg0 it0 lg139 it140 := by rw [em_lg139, em_it140]; exact kc_f (by first | omega | (dsimp only; omega)) hK137
  try have e143 : (it140 a1 4).toInt = (it135 a1 4).toInt := by rw [em_it140]; exact congrArg Int32.toInt (congrFun (u2_row (by omega)) 4)
  have hc146 : it140 (a1 + 5 + 2 * a2.toNatClampNeg) 2 &&& 1 = it140 (a1 + 5 + 2 * a2.toNatClampNeg) 2 := ib (i8_1 hI141 ((rpo5 ha1 (vlt (hi113)))))
  refine ⟨hc146, ?_⟩
  intro lg144 em_lg144 it145 em_it145
  have hI147 : I8 lg144 it145 := by rw [em_it145]; exact i8_u hI141 (ok8_1 (oq_444) (fun _ => i8_1 hI141 ((rpo5 ha1 (vlt (hi113))))))
  have hK148 : Kc (fun j => (437 ≤ j ∧ j < 450) ∨ (a1 ≤ j ∧ j < a1 + 17)) lg0 it0 lg144 it145 := by rw [em_lg144, em_it145]; exact kc_f (by first | omega | (dsimp only; omega)) hK142
  try have e149 : (it145 a1 4).toInt = (it140 a1 4).toInt := by rw [em_it145]; exact congrArg Int32.toInt (congrFun (u2_row (by omega)) 4)
  intro q150 em_q150 lg151 em_lg151 it152 em_it152
  have hI153 : I8 lg151 it152 := by rw [em_it152]; exact i8_u hI147 (ok8_1 (oq_444) (fun _ => by rw [em_q150]; exact stF_01 _ _ _ _ _))
  have hK154 : Kc (fun j => (437 ≤ j ∧ j < 450) ∨ (a1 ≤ j ∧ j < a1 + 17)) lg0 it0 lg151 it152 := by rw [em_lg151, em_it152]; exact kc_f (by first | omega | (dsimp only; omega)) hK148
  try have e155 : (it152 a1 4).toInt = (it145 a1 4).toInt := by rw [em_it152]; exact congrArg Int32.toInt (congrFun (u2_row (by omega)) 4)
  have hc158 : it152 (a1 + 5 + 2 * a3.toNatClampNeg) 2 &&& 1 = it152 (a1 + 5 + 2 * a3.toNatClampNeg) 2 := ib (i8_1 hI153 ((rpo5 ha1 (vlt (hi115)))))
  refine ⟨hc158, ?_⟩
  intro lg156 em_lg156 it157 em_it157
  have hI159 : I8 lg156 it157 := by rw [em_it157]; exact i8_u hI153 (ok8_1 (oq_446) (fun _ => i8_1 hI153 ((rpo5 ha1 (vlt (hi115))))))
  have hK160 : Kc (fun j => (437 ≤ j ∧ j < 450) ∨ (a1 ≤ j ∧ j < a1 + 17)) lg0 it0 lg156 it157 := by rw [em_lg156, em_it157]; exact kc_f (by first | omega | (dsimp only; omega)) hK154
  try have e161 : (it157 a1 4).toInt = (it152 a1 4).toInt := by rw [em_it157]; exact congrArg Int32.toInt (congrFun (u2_row (by omega)) 4)
  intro q162 em_q162 lg163 em_lg163 it164 em_it164
  have hI165 : I8 lg163 it164 := by rw [em_it164]; exact i8_u hI159 (ok8_1 (oq_446) (fun _ => by rw [em_q162]; exact stF_01 _ _ _ _ _))
  have hK166 : Kc (fun j => (437 ≤ j ∧ j < 450) ∨ (a1 ≤ j ∧ j < a1 + 17)) lg0 it0 lg163 it164 := by rw [em_lg163, em_it164]; exact kc_f (by first | omega | (dsimp only; omega)) hK160
  try have e167 : (it164 a1 4).toInt = (it157 a1 4).toInt := by rw [em_it164]; exact congrArg Int32.toInt (congrFun (u2_row (by omega)) 4)
  intro q168 em_q168 lg169 em_lg169 it170 em_it170
  have hI171 : I8 lg169 it170 := by rw [em_it170]; exact i8_u hI165 (ok8_1 (oq_444) (fun _ => by rw [em_q168]; exact stF_01 _ _ _ _ _))
  have hK172 : Kc (fun j => (437 ≤ j ∧ j < 450) ∨ (a1 ≤ j ∧ j < a1 + 17)) lg0 it0 lg169 it170 := by rw [em_lg169, em_it170]; exact kc_f (by first | omega | (dsimp only; omega)) hK166
  try have e173 : (it170 a1 4).toInt = (it164 a1 4).toInt := by rw [em_it170]; exact congrArg Int32.toInt (congrFun (u2_row (by omega)) 4)
  intro q174 em_q174 lg175 em_lg175 it176 em_it176
  have hI177 : I8 lg175 it176 := by rw [em_it176]; exact i8_u hI171 (ok8_1 (oq_444) (fun _ => by rw [em_q174]; exact stF_01 _ _ _ _ _))
  have hK178 : Kc (fun j => (437 ≤ j ∧ j < 450) ∨ (a1 ≤ j ∧ j < a1 + 17)) lg0 it0 lg175 it176 := by rw [em_lg175, em_it176]; exact kc_f (by first | omega | (dsimp only; omega)) hK172
  try have e179 : (it176 a1 4).toInt = (it170 a1 4).toInt := by rw [em_it176]; exact congrArg Int32.toInt (congrFun (u2_row (by omega)) 4)
  have hc182 : it176 (a1 + 5 + 2 * a2.toNatClampNeg) 2 &&& 1 = it176 (a1 + 5 + 2 * a2.toNatClampNeg) 2 := ib (i8_1 hI177 ((rpo5 ha1 (vlt (hi113)))))
  refine ⟨hc182, ?_⟩
  intro lg180 em_lg180 it181 em_it181
  have hI183 : I8 lg180 it181 := by rw [em_it181]; exact i8_u hI177 (ok8_1 (oq_445) (fun _ => i8_1 hI177 ((rpo5 ha1 (vlt (hi113))))))
  have hK184 : Kc (fun j => (437 ≤ j ∧ j < 450) ∨ (a1 ≤ j ∧ j < a1 + 17)) lg0 it0 lg180 it181 := by rw [em_lg180, em_it181]; exact kc_f (by first | omega | (dsimp only; omega)) hK178
  try have e185 : (it181 a1 4).toInt = (it176 a1 4).toInt := by rw [em_it181]; exact congrArg Int32.toInt (congrFun (u2_row (by omega)) 4)
  intro q186 em_q186 lg187 em_lg187 it188 em_it188
  have hI189 : I8 lg187 it188 := by rw [em_it188]; exact i8_u hI183 (ok8_1 (oq_445) (fun _ => by rw [em_q186]; exact stF_01 _ _ _ _ _))
  have hK190 : Kc (fun j => (437 ≤ j ∧ j < 450) ∨ (a1 ≤ j ∧ j < a1 + 17)) lg0 it0 lg187 it188 := by rw [em_lg187, em_it188]; exact kc_f (by first | omega | (dsimp only; omega)) hK184
  try have e191 : (it188 a1 4).toInt = (it181 a1 4).toInt := by rw [em_it188]; exact congrArg Int32.toInt (congrFun (u2_row (by omega)) 4)
  intro q192 em_q192 lg193 em_lg193 it194 em_it194
  have hI195 : I8 lg193 it194 := by rw [em_it194]; exact i8_u hI189 (ok8_1 (oq_445) (fun _ => by rw [em_q192]; exact stF_01 _ _ _ _ _))
  have hK196 : Kc (fun j => (437 ≤ j ∧ j < 450) ∨ (a1 ≤ j ∧ j < a1 + 17)) lg0 it0 lg193 it194 := by rw [em_lg193, em_it194]; exact kc_f (by first | omega | (dsimp only; omega)) hK190
  try have e197 : (it194 a1 4).toInt = (it188 a1 4).toInt := by rw [em_it194]; exact congrArg Int32.toInt (congrFun (u2_row (by omega)) 4)
  have hc200 : it194 445 2 &&& 1 = it194 445 2 := ib (i8_1 hI195 (oq_445))
  refine ⟨hc200, ?_⟩
  intro lg198 em_lg198 it199 em_it199
  have hI201 : I8 lg198 it199 := by rw [em_it199]; exact i8_u hI195 (ok8_1 (oq_446) (fun _ => i8_1 hI195 (oq_445)))
  have hK202 : Kc (fun j => (437 ≤ j ∧ j < 450) ∨ (a1 ≤ j ∧ j < a1 + 17)) lg0 it0 lg198 it199 := by rw [em_lg198, em_it199]; exact kc_f (by first | omega | (dsimp only; omega)) hK196
  try have e203 : (it199 a1 4).toInt = (it194 a1 4).toInt := by rw [em_it199]; exact congrArg Int32.toInt (congrFun (u2_row (by omega)) 4)
  intro q204 em_q204 lg205 em_lg205 it206 em_it206
  have hI207 : I8 lg205 it206 := by rw [em_it206]; exact i8_u hI201 (ok8_1 (oq_446) (fun _ => by rw [em_q204]; exact stF_01 _ _ _ _ _))
  have hK208 : Kc (fun j => (437 ≤ j ∧ j < 450) ∨ (a1 ≤ j ∧ j < a1 + 17)) lg0 it0 lg205 it206 := by rw [em_lg205, em_it206]; exact kc_f (by first | omega | (dsimp only; omega)) hK202
  try have e209 : (it206 a1 4).toInt = (it199 a1 4).toInt := by rw [em_it206]; exact congrArg Int32.toInt (congrFun (u2_row (by omega)) 4)
  intro q210 em_q210 lg211 em_lg211 it212 em_it212
  have hI213 : I8 lg211 it212 := by rw [em_it212]; exact i8_u hI207 (ok8_1 (oq_446) (fun _ => by rw [em_q210]; exact stF_01 _ _ _ _ _))
  have hK214 : Kc (fun j => (437 ≤ j ∧ j < 450) ∨ (a1 ≤ j ∧ j < a1 + 17)) lg0 it0 lg211 it212 := by rw [em_lg211, em_it212]; exact kc_f (by first | omega | (dsimp only; omega)) hK208
  try have e215 : (it212 a1 4).toInt = (it206 a1 4).toInt := by rw [em_it212]; exact congrArg Int32.toInt (congrFun (u2_row (by omega)) 4)
  have hc218 : it212 444 2 &&& 1 = it212 444 2 := ib (i8_1 hI213 (oq_444))
  refine ⟨hc218, ?_⟩
  intro lg216 em_lg216 it217 em_it217
  have hI219 : I8 lg216 it217 := by rw [em_it217]; exact i8_u hI213 (ok8_1 ((rpo5 ha1 (vlt (hi113)))) (fun _ => i8_1 hI213 (oq_444)))
  have hK220 : Kc (fun j => (437 ≤ j ∧ j < 450) ∨ (a1 ≤ j ∧ j < a1 + 17)) lg0 it0 lg216 it217 := by rw [em_lg216, em_it217]; exact kc_f (by first | omega | (dsimp only; omega)) hK214
  try have e221 : (it217 a1 4).toInt = (it212 a1 4).toInt := by rw [em_it217]; exact congrArg Int32.toInt (congrFun (u2_row (by omega)) 4)
  intro q222 em_q222 lg223 em_lg223 it224 em_it224
  have hI225 : I8 lg223 it224 := by rw [em_it224]; exact i8_u hI219 (ok8_1 ((rpo5 ha1 (vlt (hi113)))) (fun _ => by rw [em_q222]; exact stF_01 _ _ _ _ _))
  have hK226 : Kc (fun j => (437 ≤ j ∧ j < 450) ∨ (a1 ≤ j ∧ j < a1 + 17)) lg0 it0 lg223 it224 := by rw [em_lg223, em_it224]; exact kc_f (by first | omega | (dsimp only; omega)) hK220
  try have e227 : (it224 a1 4).toInt = (it217 a1 4).toInt := by rw [em_it224]; exact congrArg Int32.toInt (congrFun (u2_row (by omega)) 4)
  have hc230 : it224 445 2 &&& 1 = it224 445 2 := ib (i8_1 hI225 (oq_445))
  refine ⟨hc230, ?_⟩
  intro lg228 em_lg228 it229 em_it229
  have hI231 : I8 lg228 it229 := by rw [em_it229]; exact i8_u hI225 (ok8_1 (oq_446) (fun _ => i8_1 hI225 (oq_445)))
  have hK232 : Kc (fun j => (437 ≤ j ∧ j < 450) ∨ (a1 ≤ j ∧ j < a1 + 17)) lg0 it0 lg228 it229 := by rw [em_lg228, em_it229]; exact kc_f (by first | omega | (dsimp only; omega)) hK226
  try have e233 : (it229 a1 4).toInt = (it224 a1 4).toInt := by rw [em_it229]; exact congrArg Int32.toInt (congrFun (u2_row (by omega)) 4)
  intro q234 em_q234 lg235 em_lg235 it236 em_it236
  have hI237 : I8 lg235 it236 := by rw [em_it236]; exact i8_u hI231 (ok8_1 (oq_446) (fun _ => by rw [em_q234]; exact stF_01 _ _ _ _ _))
  have hK238 : Kc (fun j => (437 ≤ j ∧ j < 450) ∨ (a1 ≤ j ∧ j < a1 + 17)) lg0 it0 lg235 it236 := by rw [em_lg235, em_it236]; exact kc_f (by first | omega | (dsimp only; omega)) hK232
  try have e239 : (it236 a1 4).toInt = (it229 a1 4).toInt := by rw [em_it236]; exact congrArg Int32.toInt (congrFun (u2_row (by omega)) 4)
  intro q240 em_q240 lg241 em_lg241 it242 em_it242
  have hI243 : I8 lg241 it242 := by rw [em_it242]; exact i8_u hI237 (ok8_1 (oq_446) (fun _ => by rw [em_q240]; exact stF_01 _ _ _ _ _))
  have hK244 : Kc (fun j => (437 ≤ j ∧ j < 450) ∨ (a1 ≤ j ∧ j < a1 + 17)) lg0 it0 lg241 it242 := by rw [em_lg241, em_it242]; exact kc_f (by first | omega | (dsimp only; omega)) hK238
  try have e245 : (it242 a1 4).toInt = (it236 a1 4).toInt := by rw [em_it242]; exact congrArg Int32.toInt (congrFun (u2_row (by omega)) 4)
  have hc248 : it242 444 2 &&& 1 = it242 444 2 := ib (i8_1 hI243 (oq_444))
  refine ⟨hc248, ?_⟩
  intro lg246 em_lg246 it247 em_it247
  have hI249 : I8 lg246 it247 := by rw [em_it247]; exact i8_u hI243 (ok8_1 ((rpo5 ha1 (vlt (hi115)))) (fun _ => i8_1 hI243 (oq_444)))
  have hK250 : Kc (fun j => (437 ≤ j ∧ j < 450) ∨ (a1 ≤ j ∧ j < a1 + 17)) lg0 it0 lg246 it247 := by rw [em_lg246, em_it247]; exact kc_f (by first | omega | (dsimp only; omega)) hK244
  try have e251 : (it247 a1 4).toInt = (it242 a1 4).toInt := by rw [em_it247]; exact congrArg Int32.toInt (congrFun (u2_row (by omega)) 4)
  intro q252 em_q252 lg253 em_lg253 it254 em_it254
  have hI255 : I8 lg253 it254 := by rw [em_it254]; exact i8_u hI249 (ok8_1 ((rpo5 ha1 (vlt (hi115)))) (fun _ => by rw [em_q252]; exact stF_01 _ _ _ _ _))
  have hK256 : Kc (fun j => (437 ≤ j ∧ j < 450) ∨ (a1 ≤ j ∧ j < a1 + 17)) lg0 it0 lg253 it254 := by rw [em_lg253, em_it254]; exact kc_f (by first | omega | (dsimp only; omega)) hK250
  try have e257 : (it254 a1 4).toInt = (it247 a1 4).toInt := by rw [em_it254]; exact congrArg Int32.toInt (congrFun (u2_row (by omega)) 4)
  refine ⟨fun c278 => ?_, fun c278 => ?_⟩
  · try simp only [Int32.lt_iff_toInt_lt, Int32.le_iff_toInt_le, ← Int32.toInt_inj, Int32.toInt_toInt64, ti_m14, ti_m13, ti_m12, ti_m11, ti_m10, ti_m9, ti_m6, ti_m5, ti_m4, ti_m3, ti_m2, ti_m1, ti_0, ti_1, ti_2, ti_3, ti_4, ti_5, ti_6, ti_7, ti_8, ti_9, ti_10, ti_11, ti_12, ti_19, ti_20, ti_21, ti_44, ti_45, ti_48, ti_57, ti_59, ti_60, ti_98, ti_99, ti_100, ti_101, ti_103, ti_108, ti_110, ti_114, ti_127] at c278
    subst hp
    exact ⟨⟨hI255, hK256⟩, by first | exact Or.inl rfl | exact Or.inr rfl | assumption⟩
  · try simp only [Int32.lt_iff_toInt_lt, Int32.le_iff_toInt_le, ← Int32.toInt_inj, Int32.toInt_toInt64, ti_m14, ti_m13, ti_m12, ti_m11, ti_m10, ti_m9, ti_m6, ti_m5, ti_m4, ti_m3, ti_m2, ti_m1, ti_0, ti_1, ti_2, ti_3, ti_4, ti_5, ti_6, ti_7, ti_8, ti_9, ti_10, ti_11, ti_12, ti_19, ti_20, ti_21, ti_44, ti_45, ti_48, ti_57, ti_59, ti_60, ti_98, ti_99, ti_100, ti_101, ti_103, ti_108, ti_110, ti_114, ti_127] at c278
    refine ⟨fun c286 => ?_, fun c286 => ?_⟩
    · try simp only [Int32.lt_iff_toInt_lt, Int32.le_iff_toInt_le, ← Int32.toInt_inj, Int32.toInt_toInt64, ti_m14, ti_m13, ti_m12, ti_m11, ti_m10, ti_m9, ti_m6, ti_m5, ti_m4, ti_m3, ti_m2, ti_m1, ti_0, ti_1, ti_2, ti_3, ti_4, ti_5, ti_6, ti_7, ti_8, ti_9, ti_10, ti_11, ti_12, ti_19, ti_20, ti_21, ti_44, ti_45, ti_48, ti_57, ti_59, ti_60, ti_98, ti_99, ti_100, ti_101, ti_103, ti_108, ti_110, ti_114, ti_127] at c286
      subst hp
      exact ⟨⟨hI255, hK256⟩, by first | exact Or.inl rfl | exact Or.inr rfl | assumption⟩
    · try simp only [Int32.lt_iff_toInt_lt, Int32.le_iff_toInt_le, ← Int32.toInt_inj, Int32.toInt_toInt64, ti_m14, ti_m13, ti_m12, ti_m11, ti_m10, ti_m9, ti_m6, ti_m5, ti_m4, ti_m3, ti_m2, ti_m1, ti_0, ti_1, ti_2, ti_3, ti_4, ti_5, ti_6, ti_7, ti_8, ti_9, ti_10, ti_11, ti_12, ti_19, ti_20, ti_21, ti_44, ti_45, ti_48, ti_57, ti_59, ti_60, ti_98, ti_99, ti_100, ti_101, ti_103, ti_108, ti_110, ti_114, ti_127] at c286
      subst hp
      exact ⟨⟨hI255, hK256⟩, by first | exact Or.inl rfl | exact Or.inr rfl | assumption⟩
set_option maxRecDepth 100000 in
theorem s_X5_strike {a1 : Nat} (ha1 : a1 ∈ rb) {a2 : Nat} (ha2 : Ob NT a2 1) (a3 : Int32) {lg0 : LGt} {it0 : ITt} (hI : I8 lg0 it0) (hf : a3.toInt = 9 ∨ (0 ≤ a3.toInt ∧ a3.toInt ≤ 5)) (hb : 1 ≤ (it0 a1 0).toInt) : w_X5_strike a1 a2 a3 (fun (v : Int32) (lg' : LGt) (it' : ITt) => (I8 lg' it' ∧ Kc (fun j => (437 ≤ j ∧ j < 450) ∨ (a1 ≤ j ∧ j < a1 + 17) ∨ (a2 ≤ j ∧ j < a2 + 1)) lg0 it0 lg' it') ∧ (v = 0 ∨ v = 1))  lg0 it0 := by
  have hb_a3 := And.intro a3.le_toInt a3.toInt_lt
  have hKr : Kc (fun j => (437 ≤ j ∧ j < 450) ∨ (a1 ≤ j ∧ j < a1 + 17) ∨ (a2 ≤ j ∧ j < a2 + 1)) lg0 it0 lg0 it0 := kc_r
  generalize hp : (fun (v : Int32) (lg' : LGt) (it' : ITt) => (I8 lg' it' ∧ Kc (fun j => (437 ≤ j ∧ j < 450) ∨ (a1 ≤ j ∧ j < a1 + 17) ∨ (a2 ≤ j ∧ j < a2 + 1)) lg0 it0 lg' it') ∧ (v = 0 ∨ v = 1)) = Pz
  unfold w_X5_strike
  have hfar := rb_far ha1
  have hne := ob_ne ha2 (obr ha1) (by decide)
  intro q65 em_q65 lg66 em_lg66 it67 em_it67
  have hI68 : I8 lg66 it67 := by rw [em_it67]; exact i8_u hI (ok8_1 (ha2) (fun _ => by rw [em_q65]; exact stF_01 _ _ _ _ _))
  have hK69 : Kc (fun j => (437 ≤ j ∧ j < 450) ∨ (a1 ≤ j ∧ j < a1 + 17) ∨ (a2 ≤ j ∧ j < a2 + 1)) lg0 it0 lg66 it67 := by rw [em_lg66, em_it67]; exact kc_f (by first | omega | (dsimp only; omega)) hKr
  try have e70 : (it67 a1 0).toInt = (it0 a1 0).toInt := by rw [em_it67]; exact congrArg Int32.toInt (congrFun (u2_row (by omega)) 0)
  have lp17 : ∀ (n : Nat) (x4 : Int32) (x5 : Int32) (lg : LGt) (it : ITt), I8 lg it → Kc (fun j => (437 ≤ j ∧ j < 450) ∨ (a1 ≤ j ∧ j < a1 + 17) ∨ (a2 ≤ j ∧ j < a2 + 1)) lg0 it0 lg it → ((0 ≤ (x5).toInt) ∧ (((x4) = 0 ∨ (x4) = 1)) ∧ ((it a1 0).toInt = (it0 a1 0).toInt)) → (7 - (x5).toInt).toNat < n → w_X5_strike_b17 a1 a2 a3 Pz  n x4 x5 lg it := by
    intro n17
    induction n17 with
    | zero => intro x4 x5 lg it _ _ _ hn; exact absurd hn (Nat.not_lt_zero _)
    | succ n17 ih17 =>
      intro x4 x5 lg73 it74 hI71 hK72 hv hn
      unfold w_X5_strike_b17
      obtain ⟨hv17_0, hv17_1, hv17_2⟩ := hv
      have f75 : 0 ≤ (it74 a1 0).toInt ∧ (it74 a1 0).toInt ≤ 6 := i8_3 hI71 (obr ha1)
      refine ⟨fun c23 => ?_, fun c23 => ?_⟩
      · try simp only [Int32.lt_iff_toInt_lt, Int32.le_iff_toInt_le, ← Int32.toInt_inj, Int32.toInt_toInt64, ti_m14, ti_m13, ti_m12, ti_m11, ti_m10, ti_m9, ti_m6, ti_m5, ti_m4, ti_m3, ti_m2, ti_m1, ti_0, ti_1, ti_2, ti_3, ti_4, ti_5, ti_6, ti_7, ti_8, ti_9, ti_10, ti_11, ti_12, ti_19, ti_20, ti_21, ti_44, ti_45, ti_48, ti_57, ti_59, ti_60, ti_98, ti_99, ti_100, ti_101, ti_103, ti_108, ti_110, ti_114, ti_127] at c23
        refine ⟨fun c98 => ?_, fun c98 => ?_⟩
        · try simp only [Int32.lt_iff_toInt_lt, Int32.le_iff_toInt_le, ← Int32.toInt_inj, Int32.toInt_toInt64, ti_m14, ti_m13, ti_m12, ti_m11, ti_m10, ti_m9, ti_m6, ti_m5, ti_m4, ti_m3, ti_m2, ti_m1, ti_0, ti_1, ti_2, ti_3, ti_4, ti_5, ti_6, ti_7, ti_8, ti_9, ti_10, ti_11, ti_12, ti_19, ti_20, ti_21, ti_44, ti_45, ti_48, ti_57, ti_59, ti_60, ti_98, ti_99, ti_100, ti_101, ti_103, ti_108, ti_110, ti_114, ti_127] at c98
          refine ⟨fun c104 => ?_, fun c104 => ?_⟩
          · try simp only [Int32.lt_iff_toInt_lt, Int32.le_iff_toInt_le, ← Int32.toInt_inj, Int32.toInt_toInt64, ti_m14, ti_m13, ti_m12, ti_m11, ti_m10, ti_m9, ti_m6, ti_m5, ti_m4, ti_m3, ti_m2, ti_m1, ti_0, ti_1, ti_2, ti_3, ti_4, ti_5, ti_6, ti_7, ti_8, ti_9, ti_10, ti_11, ti_12, ti_19, ti_20, ti_21, ti_44, ti_45, ti_48, ti_57, ti_59, ti_60, ti_98, ti_99, ti_100, ti_101, ti_103, ti_108, ti_110, ti_114, ti_127] at c104
            refine ⟨fun c127 => ?_, fun c127 => ?_⟩
            · try simp only [Int32.lt_iff_toInt_lt, Int32.le_iff_toInt_le, ← Int32.toInt_inj, Int32.toInt_toInt64, ti_m14, ti_m13, ti_m12, ti_m11, ti_m10, ti_m9, ti_m6, ti_m5, ti_m4, ti_m3, ti_m2, ti_m1, ti_0, ti_1, ti_2, ti_3, ti_4, ti_5, ti_6, ti_7, ti_8, ti_9, ti_10, ti_11, ti_12, ti_19, ti_20, ti_21, ti_44, ti_45, ti_48, ti_57, ti_59, ti_60, ti_98, ti_99, ti_100, ti_101, ti_103, ti_108, ti_110, ti_114, ti_127] at c127
              try have f76 : ((a3 - 1) : Int32).toInt = (a3).toInt - 1 := sb32 (a := (a3).toInt) (b := 1) (rfl) (ti_1) (by omega) (by omega)
              refine ⟨_, s_X5_collide (ha1) ((a3 - 1)) (a3) hI71 (by omega) (by omega), ?_⟩
              intro v82 lg77 it78 hq
              obtain ⟨⟨hI79, hK80⟩, ha83⟩ := hq
              have hK81 : Kc (fun j => (437 ≤ j ∧ j < 450) ∨ (a1 ≤ j ∧ j < a1 + 17) ∨ (a2 ≤ j ∧ j < a2 + 1)) lg0 it0 lg77 it78 := kc_t hK72 hK80 (fun j hj => by first | omega | exact False.elim hj | (dsimp only at hj ⊢; omega))
              try have e84 : (it78 a1 0).toInt = (it74 a1 0).toInt := congrArg (fun f => Int32.toInt (f 0)) (hK80 a1 (by first | omega | (dsimp only; omega))).2
              refine ⟨ib (by first | assumption | exact Or.inl rfl | exact Or.inr rfl), ?_⟩
              subst hp
              exact ⟨⟨hI79, hK81⟩, by first | exact Or.inl rfl | exact Or.inr rfl | assumption⟩
            · try simp only [Int32.lt_iff_toInt_lt, Int32.le_iff_toInt_le, ← Int32.toInt_inj, Int32.toInt_toInt64, ti_m14, ti_m13, ti_m12, ti_m11, ti_m10, ti_m9, ti_m6, ti_m5, ti_m4, ti_m3, ti_m2, ti_m1, ti_0, ti_1, ti_2, ti_3, ti_4, ti_5, ti_6, ti_7, ti_8, ti_9, ti_10, ti_11, ti_12, ti_19, ti_20, ti_21, ti_44, ti_45, ti_48, ti_57, ti_59, ti_60, ti_98, ti_99, ti_100, ti_101, ti_103, ti_108, ti_110, ti_114, ti_127] at c127
              try have f85 : (((it74 a1 0) - 1) : Int32).toInt = ((it74 a1 0)).toInt - 1 := sb32 (a := ((it74 a1 0)).toInt) (b := 1) (rfl) (ti_1) (by omega) (by omega)
              have hi86 : vp_in ((it74 a1 0) - 1) 6 := vp_of (by first | omega | ((try simp only [Int32.lt_iff_toInt_lt, Int32.le_iff_toInt_le, ← Int32.toInt_inj, Int32.toInt_toInt64, ti_m14, ti_m13, ti_m12, ti_m11, ti_m10, ti_m9, ti_m6, ti_m5, ti_m4, ti_m3, ti_m2, ti_m1, ti_0, ti_1, ti_2, ti_3, ti_4, ti_5, ti_6, ti_7, ti_8, ti_9, ti_10, ti_11, ti_12, ti_19, ti_20, ti_21, ti_44, ti_45, ti_48, ti_57, ti_59, ti_60, ti_98, ti_99, ti_100, ti_101, ti_103, ti_108, ti_110, ti_114, ti_127]); omega) | (split <;> omega)) (by first | omega | ((try simp only [Int32.lt_iff_toInt_lt, Int32.le_iff_toInt_le, ← Int32.toInt_inj, Int32.toInt_toInt64, ti_m14, ti_m13, ti_m12, ti_m11, ti_m10, ti_m9, ti_m6, ti_m5, ti_m4, ti_m3, ti_m2, ti_m1, ti_0, ti_1, ti_2, ti_3, ti_4, ti_5, ti_6, ti_7, ti_8, ti_9, ti_10, ti_11, ti_12, ti_19, ti_20, ti_21, ti_44, ti_45, ti_48, ti_57, ti_59, ti_60, ti_98, ti_99, ti_100, ti_101, ti_103, ti_108, ti_110, ti_114, ti_127]); omega) | (split <;> omega))
              refine ⟨hi86, ?_⟩
              have hz87 := vlt hi86
              refine ⟨_, s_X5_rebound ((rpo5 ha1 (vlt (hi86)))) ((it74 (a1 + 16) 1)) hI71 , ?_⟩
              intro v93 lg88 it89 hq
              obtain ⟨⟨hI90, hK91⟩, ha94⟩ := hq
              have hK92 : Kc (fun j => (437 ≤ j ∧ j < 450) ∨ (a1 ≤ j ∧ j < a1 + 17) ∨ (a2 ≤ j ∧ j < a2 + 1)) lg0 it0 lg88 it89 := kc_t hK72 hK91 (fun j hj => by first | omega | exact False.elim hj | (dsimp only at hj ⊢; omega))
              try have e95 : (it89 a1 0).toInt = (it74 a1 0).toInt := congrArg (fun f => Int32.toInt (f 0)) (hK91 a1 (by first | omega | (dsimp only; omega))).2
              refine ⟨ib (by first | assumption | exact Or.inl rfl | exact Or.inr rfl), ?_⟩
              subst hp
              exact ⟨⟨hI90, hK92⟩, by first | exact Or.inl rfl | exact Or.inr rfl | assumption⟩
          · try simp only [Int32.lt_iff_toInt_lt, Int32.le_iff_toInt_le, ← Int32.toInt_inj, Int32.toInt_toInt64, ti_m14, ti_m13, ti_m12, ti_m11, ti_m10, ti_m9, ti_m6, ti_m5, ti_m4, ti_m3, ti_m2, ti_m1, ti_0, ti_1, ti_2, ti_3, ti_4, ti_5, ti_6, ti_7, ti_8, ti_9, ti_10, ti_11, ti_12, ti_19, ti_20, ti_21, ti_44, ti_45, ti_48, ti_57, ti_59, ti_60, ti_98, ti_99, ti_100, ti_101, ti_103, ti_108, ti_110, ti_114, ti_127] at c104
            refine ⟨_, s_X5_rebound ((rpo5 ha1 (show 0 < 6 by decide))) ((it74 (a1 + 16) 0)) hI71 , ?_⟩
            intro v101 lg96 it97 hq
            obtain ⟨⟨hI98, hK99⟩, ha102⟩ := hq
            have hK100 : Kc (fun j => (437 ≤ j ∧ j < 450) ∨ (a1 ≤ j ∧ j < a1 + 17) ∨ (a2 ≤ j ∧ j < a2 + 1)) lg0 it0 lg96 it97 := kc_t hK72 hK99 (fun j hj => by first | omega | exact False.elim hj | (dsimp only at hj ⊢; omega))
            try have e103 : (it97 a1 0).toInt = (it74 a1 0).toInt := congrArg (fun f => Int32.toInt (f 0)) (hK99 a1 (by first | omega | (dsimp only; omega))).2
            refine ⟨ib (by first | assumption | exact Or.inl rfl | exact Or.inr rfl), ?_⟩
            subst hp
            exact ⟨⟨hI98, hK100⟩, by first | exact Or.inl rfl | exact Or.inr rfl | assumption⟩
        · try simp only [Int32.lt_iff_toInt_lt, Int32.le_iff_toInt_le, ← Int32.toInt_inj, Int32.toInt_toInt64, ti_m14, ti_m13, ti_m12, ti_m11, ti_m10, ti_m9, ti_m6, ti_m5, ti_m4, ti_m3, ti_m2, ti_m1, ti_0, ti_1, ti_2, ti_3, ti_4, ti_5, ti_6, ti_7, ti_8, ti_9, ti_10, ti_11, ti_12, ti_19, ti_20, ti_21, ti_44, ti_45, ti_48, ti_57, ti_59, ti_60, ti_98, ti_99, ti_100, ti_101, ti_103, ti_108, ti_110, ti_114, ti_127] at c98
          subst hp
          exact ⟨⟨hI71, hK72⟩, by first | exact Or.inl rfl | exact Or.inr rfl | assumption⟩
      · try simp only [Int32.lt_iff_toInt_lt, Int32.le_iff_toInt_le, ← Int32.toInt_inj, Int32.toInt_toInt64, ti_m14, ti_m13, ti_m12, ti_m11, ti_m10, ti_m9, ti_m6, ti_m5, ti_m4, ti_m3, ti_m2, ti_m1, ti_0, ti_1, ti_2, ti_3, ti_4, ti_5, ti_6, ti_7, ti_8, ti_9, ti_10, ti_11, ti_12, ti_19, ti_20, ti_21, ti_44, ti_45, ti_48, ti_57, ti_59, ti_60, ti_98, ti_99, ti_100, ti_101, ti_103, ti_108, ti_110, ti_114, ti_127] at c23
        have hi104 : vp_in x5 6 := vp_of (by first | omega | ((try simp only [Int32.lt_iff_toInt_lt, Int32.le_iff_toInt_le, ← Int32.toInt_inj, Int32.toInt_toInt64, ti_m14, ti_m13, ti_m12, ti_m11, ti_m10, ti_m9, ti_m6, ti_m5, ti_m4, ti_m3, ti_m2, ti_m1, ti_0, ti_1, ti_2, ti_3, ti_4, ti_5, ti_6, ti_7, ti_8, ti_9, ti_10, ti_11, ti_12, ti_19, ti_20, ti_21, ti_44, ti_45, ti_48, ti_57, ti_59, ti_60, ti_98, ti_99, ti_100, ti_101, ti_103, ti_108, ti_110, ti_114, ti_127]); omega) | (split <;> omega)) (by first | omega | ((try simp only [Int32.lt_iff_toInt_lt, Int32.le_iff_toInt_le, ← Int32.toInt_inj, Int32.toInt_toInt64, ti_m14, ti_m13, ti_m12, ti_m11, ti_m10, ti_m9, ti_m6, ti_m5, ti_m4, ti_m3, ti_m2, ti_m1, ti_0, ti_1, ti_2, ti_3, ti_4, ti_5, ti_6, ti_7, ti_8, ti_9, ti_10, ti_11, ti_12, ti_19, ti_20, ti_21, ti_44, ti_45, ti_48, ti_57, ti_59, ti_60, ti_98, ti_99, ti_100, ti_101, ti_103, ti_108, ti_110, ti_114, ti_127]); omega) | (split <;> omega))
        refine ⟨hi104, ?_⟩
        have hz105 := vlt hi104
        have hc108 : it74 (a1 + 5 + 2 * x5.toNatClampNeg) 2 &&& 1 = it74 (a1 + 5 + 2 * x5.toNatClampNeg) 2 := ib (i8_1 hI71 ((rpo5 ha1 (vlt (hi104)))))
        refine ⟨hc108, ?_⟩
        intro lg106 em_lg106 it107 em_it107
        have hI109 : I8 lg106 it107 := by rw [em_it107]; exact i8_u hI71 (ok8_1 (oq_442) (fun _ => i8_1 hI71 ((rpo5 ha1 (vlt (hi104))))))
        have hK110 : Kc (fun j => (437 ≤ j ∧ j < 450) ∨ (a1 ≤ j ∧ j < a1 + 17) ∨ (a2 ≤ j ∧ j < a2 + 1)) lg0 it0 lg106 it107 := by rw [em_lg106, em_it107]; exact kc_f (by first | omega | (dsimp only; omega)) hK72
        try have e111 : (it107 a1 0).toInt = (it74 a1 0).toInt := by rw [em_it107]; exact congrArg Int32.toInt (congrFun (u2_row (by omega)) 0)
        intro q112 em_q112 lg113 em_lg113 it114 em_it114
        have hI115 : I8 lg113 it114 := by rw [em_it114]; exact i8_u hI109 (ok8_1 (oq_442) (fun _ => by rw [em_q112]; exact stF_01 _ _ _ _ _))
        have hK116 : Kc (fun j => (437 ≤ j ∧ j < 450) ∨ (a1 ≤ j ∧ j < a1 + 17) ∨ (a2 ≤ j ∧ j < a2 + 1)) lg0 it0 lg113 it114 := by rw [em_lg113, em_it114]; exact kc_f (by first | omega | (dsimp only; omega)) hK110
        try have e117 : (it114 a1 0).toInt = (it107 a1 0).toInt := by rw [em_it114]; exact congrArg Int32.toInt (congrFun (u2_row (by omega)) 0)
        have hi118 : vp_in x5 6 := vp_of (by first | omega | ((try simp only [Int32.lt_iff_toInt_lt, Int32.le_iff_toInt_le, ← Int32.toInt_inj, Int32.toInt_toInt64, ti_m14, ti_m13, ti_m12, ti_m11, ti_m10, ti_m9, ti_m6, ti_m5, ti_m4, ti_m3, ti_m2, ti_m1, ti_0, ti_1, ti_2, ti_3, ti_4, ti_5, ti_6, ti_7, ti_8, ti_9, ti_10, ti_11, ti_12, ti_19, ti_20, ti_21, ti_44, ti_45, ti_48, ti_57, ti_59, ti_60, ti_98, ti_99, ti_100, ti_101, ti_103, ti_108, ti_110, ti_114, ti_127]); omega) | (split <;> omega)) (by first | omega | ((try simp only [Int32.lt_iff_toInt_lt, Int32.le_iff_toInt_le, ← Int32.toInt_inj, Int32.toInt_toInt64, ti_m14, ti_m13, ti_m12, ti_m11, ti_m10, ti_m9, ti_m6, ti_m5, ti_m4, ti_m3, ti_m2, ti_m1, ti_0, ti_1, ti_2, ti_3, ti_4, ti_5, ti_6, ti_7, ti_8, ti_9, ti_10, ti_11, ti_12, ti_19, ti_20, ti_21, ti_44, ti_45, ti_48, ti_57, ti_59, ti_60, ti_98, ti_99, ti_100, ti_101, ti_103, ti_108, ti_110, ti_114, ti_127]); omega) | (split <;> omega))
        refine ⟨hi118, ?_⟩
        have hz119 := vlt hi118
        intro q120 em_q120 lg121 em_lg121 it122 em_it122
        have hI123 : I8 lg121 it122 := by rw [em_it122]; exact i8_u hI115 (ok8_1 ((rpo4 ha1 (vlt (hi118)))) (fun _ => by rw [em_q120]; exact stF_01 _ _ _ _ _))
        have hK124 : Kc (fun j => (437 ≤ j ∧ j < 450) ∨ (a1 ≤ j ∧ j < a1 + 17) ∨ (a2 ≤ j ∧ j < a2 + 1)) lg0 it0 lg121 it122 := by rw [em_lg121, em_it122]; exact kc_f (by first | omega | (dsimp only; omega)) hK116
        try have e125 : (it122 a1 0).toInt = (it114 a1 0).toInt := by rw [em_it122]; exact congrArg Int32.toInt (congrFun (u2_row (by omega)) 0)
        refine ⟨fun c67 => ?_, fun c67 => ?_⟩
        · try simp only [Int32.lt_iff_toInt_lt, Int32.le_iff_toInt_le, ← Int32.toInt_inj, Int32.toInt_toInt64, ti_m14, ti_m13, ti_m12, ti_m11, ti_m10, ti_m9, ti_m6, ti_m5, ti_m4, ti_m3, ti_m2, ti_m1, ti_0, ti_1, ti_2, ti_3, ti_4, ti_5, ti_6, ti_7, ti_8, ti_9, ti_10, ti_11, ti_12, ti_19, ti_20, ti_21, ti_44, ti_45, ti_48, ti_57, ti_59, ti_60, ti_98, ti_99, ti_100, ti_101, ti_103, ti_108, ti_110, ti_114, ti_127] at c67
          try have f126 : ((x5 + 1) : Int32).toInt = (x5).toInt + 1 := ad32 (a := (x5).toInt) (b := 1) (rfl) (ti_1) (by omega) (by omega)
          exact ih17 ((1 : Int32)) ((x5 + 1)) _ _ hI123 hK124 (by refine ⟨?_, ?_, ?_⟩ <;> first | omega | assumption | exact Or.inl rfl | exact Or.inr rfl | exact i8_1 (by assumption) (by assumption) | decide) (by omega)
        · try simp only [Int32.lt_iff_toInt_lt, Int32.le_iff_toInt_le, ← Int32.toInt_inj, Int32.toInt_toInt64, ti_m14, ti_m13, ti_m12, ti_m11, ti_m10, ti_m9, ti_m6, ti_m5, ti_m4, ti_m3, ti_m2, ti_m1, ti_0, ti_1, ti_2, ti_3, ti_4, ti_5, ti_6, ti_7, ti_8, ti_9, ti_10, ti_11, ti_12, ti_19, ti_20, ti_21, ti_44, ti_45, ti_48, ti_57, ti_59, ti_60, ti_98, ti_99, ti_100, ti_101, ti_103, ti_108, ti_110, ti_114, ti_127] at c67
          have hi127 : vp_in x5 6 := vp_of (by first | omega | ((try simp only [Int32.lt_iff_toInt_lt, Int32.le_iff_toInt_le, ← Int32.toInt_inj, Int32.toInt_toInt64, ti_m14, ti_m13, ti_m12, ti_m11, ti_m10, ti_m9, ti_m6, ti_m5, ti_m4, ti_m3, ti_m2, ti_m1, ti_0, ti_1, ti_2, ti_3, ti_4, ti_5, ti_6, ti_7, ti_8, ti_9, ti_10, ti_11, ti_12, ti_19, ti_20, ti_21, ti_44, ti_45, ti_48, ti_57, ti_59, ti_60, ti_98, ti_99, ti_100, ti_101, ti_103, ti_108, ti_110, ti_114, ti_127]); omega) | (split <;> omega)) (by first | omega | ((try simp only [Int32.lt_iff_toInt_lt, Int32.le_iff_toInt_le, ← Int32.toInt_inj, Int32.toInt_toInt64, ti_m14, ti_m13, ti_m12, ti_m11, ti_m10, ti_m9, ti_m6, ti_m5, ti_m4, ti_m3, ti_m2, ti_m1, ti_0, ti_1, ti_2, ti_3, ti_4, ti_5, ti_6, ti_7, ti_8, ti_9, ti_10, ti_11, ti_12, ti_19, ti_20, ti_21, ti_44, ti_45, ti_48, ti_57, ti_59, ti_60, ti_98, ti_99, ti_100, ti_101, ti_103, ti_108, ti_110, ti_114, ti_127]); omega) | (split <;> omega))
          refine ⟨hi127, ?_⟩
          have hz128 := vlt hi127
          refine ⟨fun c80 => ?_, fun c80 => ?_⟩
          · try simp only [Int32.lt_iff_toInt_lt, Int32.le_iff_toInt_le, ← Int32.toInt_inj, Int32.toInt_toInt64, ti_m14, ti_m13, ti_m12, ti_m11, ti_m10, ti_m9, ti_m6, ti_m5, ti_m4, ti_m3, ti_m2, ti_m1, ti_0, ti_1, ti_2, ti_3, ti_4, ti_5, ti_6, ti_7, ti_8, ti_9, ti_10, ti_11, ti_12, ti_19, ti_20, ti_21, ti_44, ti_45, ti_48, ti_57, ti_59, ti_60, ti_98, ti_99, ti_100, ti_101, ti_103, ti_108, ti_110, ti_114, ti_127] at c80
            try have f129 : ((x5 + 1) : Int32).toInt = (x5).toInt + 1 := ad32 (a := (x5).toInt) (b := 1) (rfl) (ti_1) (by omega) (by omega)
            exact ih17 ((0 : Int32)) ((x5 + 1)) _ _ hI123 hK124 (by refine ⟨?_, ?_, ?_⟩ <;> first | omega | assumption | exact Or.inl rfl | exact Or.inr rfl | exact i8_1 (by assumption) (by assumption) | decide) (by omega)
          · try simp only [Int32.lt_iff_toInt_lt, Int32.le_iff_toInt_le, ← Int32.toInt_inj, Int32.toInt_toInt64, ti_m14, ti_m13, ti_m12, ti_m11, ti_m10, ti_m9, ti_m6, ti_m5, ti_m4, ti_m3, ti_m2, ti_m1, ti_0, ti_1, ti_2, ti_3, ti_4, ti_5, ti_6, ti_7, ti_8, ti_9, ti_10, ti_11, ti_12, ti_19, ti_20, ti_21, ti_44, ti_45, ti_48, ti_57, ti_59, ti_60, ti_98, ti_99, ti_100, ti_101, ti_103, ti_108, ti_110, ti_114, ti_127] at c80
            try have f130 : ((x5 + 1) : Int32).toInt = (x5).toInt + 1 := ad32 (a := (x5).toInt) (b := 1) (rfl) (ti_1) (by omega) (by omega)
            exact ih17 ((1 : Int32)) ((x5 + 1)) _ _ hI123 hK124 (by refine ⟨?_, ?_, ?_⟩ <;> first | omega | assumption | exact Or.inl rfl | exact Or.inr rfl | exact i8_1 (by assumption) (by assumption) | decide) (by omega)
  have t131 := ti_0
  exact ⟨_, lp17 ((7 - ((0 : Int32)).toInt).toNat + 1) ((it67 a2 2)) ((0 : Int32)) _ _ hI68 hK69 (by refine ⟨?_, ?_, ?_⟩ <;> first | omega | assumption | exact Or.inl rfl | exact Or.inr rfl | exact i8_1 (by assumption) (by assumption) | decide) (Nat.lt_succ_self _)⟩
set_option maxRecDepth 100000 in
theorem s_X0_work {a1 : Nat} (ha1 : a1 ∈ rb) (a2 : Int32) {lg0 : LGt} {it0 : ITt} (hI : I8 lg0 it0) : w_X0_work a1 a2 (fun (lg' : LGt) (it' : ITt) => (I8 lg' it' ∧ Kc (fun j => (55 ≤ j ∧ j < 450)) lg0 it0 lg' it'))  lg0 it0 := by
  have hb_a2 := And.intro a2.le_toInt a2.toInt_lt
  have hKr : Kc (fun j => (55 ≤ j ∧ j < 450)) lg0 it0 lg0 it0 := kc_r
  generalize hp : (fun (lg' : LGt) (it' : ITt) => (I8 lg' it' ∧ Kc (fun j => (55 ≤ j ∧ j < 450)) lg0 it0 lg' it')) = Pz
  unfold w_X0_work
  refine ⟨fun c5 => ?_, fun c5 => ?_⟩
  · try simp only [Int32.lt_iff_toInt_lt, Int32.le_iff_toInt_le, ← Int32.toInt_inj, Int32.toInt_toInt64, ti_m14, ti_m13, ti_m12, ti_m11, ti_m10, ti_m9, ti_m6, ti_m5, ti_m4, ti_m3, ti_m2, ti_m1, ti_0, ti_1, ti_2, ti_3, ti_4, ti_5, ti_6, ti_7, ti_8, ti_9, ti_10, ti_11, ti_12, ti_19, ti_20, ti_21, ti_44, ti_45, ti_48, ti_57, ti_59, ti_60, ti_98, ti_99, ti_100, ti_101, ti_103, ti_108, ti_110, ti_114, ti_127] at c5
    unfold w_X0_work_b22
    intro it91 em92
    have hI93 : I8 lg0 it91 := by rw [em92]; exact i8_u hI (ok8_0 (oq_55) (fun q => absurd q (by decide)))
    have hK94 : Kc (fun j => (55 ≤ j ∧ j < 450)) lg0 it0 lg0 it91 := by rw [em92]; exact kc_u (by first | omega | (dsimp only; omega)) hKr
    refine ⟨_, s_X3_become (in_rb_58) (ha1)  hI93 , ?_⟩
    intro lg96 it97 hq
    obtain ⟨hI98, hK99⟩ := hq
    have hK100 : Kc (fun j => (55 ≤ j ∧ j < 450)) lg0 it0 lg96 it97 := kc_t hK94 hK99 (fun j hj => by first | omega | exact False.elim hj | (dsimp only at hj ⊢; omega))
    try have e103 : (it97 55 5).toInt = (it91 55 5).toInt := congrArg (fun f => Int32.toInt (f 5)) (hK99 55 (by first | omega | (dsimp only; omega))).2
    intro lg104 em_lg104 it105 em_it105
    have hI106 : I8 lg104 it105 := by rw [em_it105]; exact i8_u hI98 (ok8_1 (oq_75) (fun _ => Or.inl rfl))
    have hK107 : Kc (fun j => (55 ≤ j ∧ j < 450)) lg0 it0 lg104 it105 := by rw [em_lg104, em_it105]; exact kc_f (by first | omega | (dsimp only; omega)) hK100
    have e108 : (it105 55 5).toInt = (it97 55 5).toInt := by rw [em_it105]; exact congrArg Int32.toInt (congrFun (u2_row (by decide)) 5)
    intro it109 em110
    have hI111 : I8 lg104 it109 := by rw [em110]; exact i8_u hI106 (ok8_0 (oq_55) (fun _ => by (try simp only [Int32.lt_iff_toInt_lt, Int32.le_iff_toInt_le, ← Int32.toInt_inj, Int32.toInt_toInt64, ti_m14, ti_m13, ti_m12, ti_m11, ti_m10, ti_m9, ti_m6, ti_m5, ti_m4, ti_m3, ti_m2, ti_m1, ti_0, ti_1, ti_2, ti_3, ti_4, ti_5, ti_6, ti_7, ti_8, ti_9, ti_10, ti_11, ti_12, ti_19, ti_20, ti_21, ti_44, ti_45, ti_48, ti_57, ti_59, ti_60, ti_98, ti_99, ti_100, ti_101, ti_103, ti_108, ti_110, ti_114, ti_127]); omega))
    have hK112 : Kc (fun j => (55 ≤ j ∧ j < 450)) lg0 it0 lg104 it109 := by rw [em110]; exact kc_u (by first | omega | (dsimp only; omega)) hK107
    have e113 : (it109 55 5).toInt = (it105 55 5).toInt := by rw [em110]; exact congrArg Int32.toInt (u2_ne (by decide))
    intro it114 em115
    have hI116 : I8 lg104 it114 := by rw [em115]; exact i8_u hI111 (ok8_0 (oq_55) (fun q => absurd q (by decide)))
    have hK117 : Kc (fun j => (55 ≤ j ∧ j < 450)) lg0 it0 lg104 it114 := by rw [em115]; exact kc_u (by first | omega | (dsimp only; omega)) hK112
    have e118 : (it114 55 5).toInt = (it109 55 5).toInt := by rw [em115]; exact congrArg Int32.toInt (u2_ne (by decide))
    have lp59 : ∀ (n : Nat) (x3 : Int32) (lg : LGt) (it : ITt), I8 lg it → Kc (fun j => (55 ≤ j ∧ j < 450)) lg0 it0 lg it → ((0 ≤ (x3).toInt)) → (21 - (x3).toInt).toNat < n → w_X0_work_b59 a1 a2 Pz  n x3 lg it := by
      intro n59
      induction n59 with
      | zero => intro x3 lg it _ _ _ hn; exact absurd hn (Nat.not_lt_zero _)
      | succ n59 ih59 =>
        intro x3 lg121 it122 hI119 hK120 hv hn
        unfold w_X0_work_b59
        have hv59_0 := hv
        refine ⟨fun c61 => ?_, fun c61 => ?_⟩
        · try simp only [Int32.lt_iff_toInt_lt, Int32.le_iff_toInt_le, ← Int32.toInt_inj, Int32.toInt_toInt64, ti_m14, ti_m13, ti_m12, ti_m11, ti_m10, ti_m9, ti_m6, ti_m5, ti_m4, ti_m3, ti_m2, ti_m1, ti_0, ti_1, ti_2, ti_3, ti_4, ti_5, ti_6, ti_7, ti_8, ti_9, ti_10, ti_11, ti_12, ti_19, ti_20, ti_21, ti_44, ti_45, ti_48, ti_57, ti_59, ti_60, ti_98, ti_99, ti_100, ti_101, ti_103, ti_108, ti_110, ti_114, ti_127] at c61
          subst hp
          exact ⟨hI119, hK120⟩
        · try simp only [Int32.lt_iff_toInt_lt, Int32.le_iff_toInt_le, ← Int32.toInt_inj, Int32.toInt_toInt64, ti_m14, ti_m13, ti_m12, ti_m11, ti_m10, ti_m9, ti_m6, ti_m5, ti_m4, ti_m3, ti_m2, ti_m1, ti_0, ti_1, ti_2, ti_3, ti_4, ti_5, ti_6, ti_7, ti_8, ti_9, ti_10, ti_11, ti_12, ti_19, ti_20, ti_21, ti_44, ti_45, ti_48, ti_57, ti_59, ti_60, ti_98, ti_99, ti_100, ti_101, ti_103, ti_108, ti_110, ti_114, ti_127] at c61
          refine ⟨fun c67 => ?_, fun c67 => ?_⟩
          · try simp only [Int32.lt_iff_toInt_lt, Int32.le_iff_toInt_le, ← Int32.toInt_inj, Int32.toInt_toInt64, ti_m14, ti_m13, ti_m12, ti_m11, ti_m10, ti_m9, ti_m6, ti_m5, ti_m4, ti_m3, ti_m2, ti_m1, ti_0, ti_1, ti_2, ti_3, ti_4, ti_5, ti_6, ti_7, ti_8, ti_9, ti_10, ti_11, ti_12, ti_19, ti_20, ti_21, ti_44, ti_45, ti_48, ti_57, ti_59, ti_60, ti_98, ti_99, ti_100, ti_101, ti_103, ti_108, ti_110, ti_114, ti_127] at c67
            subst hp
            exact ⟨hI119, hK120⟩
          · try simp only [Int32.lt_iff_toInt_lt, Int32.le_iff_toInt_le, ← Int32.toInt_inj, Int32.toInt_toInt64, ti_m14, ti_m13, ti_m12, ti_m11, ti_m10, ti_m9, ti_m6, ti_m5, ti_m4, ti_m3, ti_m2, ti_m1, ti_0, ti_1, ti_2, ti_3, ti_4, ti_5, ti_6, ti_7, ti_8, ti_9, ti_10, ti_11, ti_12, ti_19, ti_20, ti_21, ti_44, ti_45, ti_48, ti_57, ti_59, ti_60, ti_98, ti_99, ti_100, ti_101, ti_103, ti_108, ti_110, ti_114, ti_127] at c67
            try have f123 : ((x3 + 1) : Int32).toInt = (x3).toInt + 1 := ad32 (a := (x3).toInt) (b := 1) (rfl) (ti_1) (by omega) (by omega)
            have hi124 : vp_in (x3 + 1) 21 := vp_of (by first | omega | ((try simp only [Int32.lt_iff_toInt_lt, Int32.le_iff_toInt_le, ← Int32.toInt_inj, Int32.toInt_toInt64, ti_m14, ti_m13, ti_m12, ti_m11, ti_m10, ti_m9, ti_m6, ti_m5, ti_m4, ti_m3, ti_m2, ti_m1, ti_0, ti_1, ti_2, ti_3, ti_4, ti_5, ti_6, ti_7, ti_8, ti_9, ti_10, ti_11, ti_12, ti_19, ti_20, ti_21, ti_44, ti_45, ti_48, ti_57, ti_59, ti_60, ti_98, ti_99, ti_100, ti_101, ti_103, ti_108, ti_110, ti_114, ti_127]); omega) | (split <;> omega)) (by first | omega | ((try simp only [Int32.lt_iff_toInt_lt, Int32.le_iff_toInt_le, ← Int32.toInt_inj, Int32.toInt_toInt64, ti_m14, ti_m13, ti_m12, ti_m11, ti_m10, ti_m9, ti_m6, ti_m5, ti_m4, ti_m3, ti_m2, ti_m1, ti_0, ti_1, ti_2, ti_3, ti_4, ti_5, ti_6, ti_7, ti_8, ti_9, ti_10, ti_11, ti_12, ti_19, ti_20, ti_21, ti_44, ti_45, ti_48, ti_57, ti_59, ti_60, ti_98, ti_99, ti_100, ti_101, ti_103, ti_108, ti_110, ti_114, ti_127]); omega) | (split <;> omega))
            refine ⟨hi124, ?_⟩
            have hz125 := vlt hi124
            have hi126 : vp_in x3 21 := vp_of (by first | omega | ((try simp only [Int32.lt_iff_toInt_lt, Int32.le_iff_toInt_le, ← Int32.toInt_inj, Int32.toInt_toInt64, ti_m14, ti_m13, ti_m12, ti_m11, ti_m10, ti_m9, ti_m6, ti_m5, ti_m4, ti_m3, ti_m2, ti_m1, ti_0, ti_1, ti_2, ti_3, ti_4, ti_5, ti_6, ti_7, ti_8, ti_9, ti_10, ti_11, ti_12, ti_19, ti_20, ti_21, ti_44, ti_45, ti_48, ti_57, ti_59, ti_60, ti_98, ti_99, ti_100, ti_101, ti_103, ti_108, ti_110, ti_114, ti_127]); omega) | (split <;> omega)) (by first | omega | ((try simp only [Int32.lt_iff_toInt_lt, Int32.le_iff_toInt_le, ← Int32.toInt_inj, Int32.toInt_toInt64, ti_m14, ti_m13, ti_m12, ti_m11, ti_m10, ti_m9, ti_m6, ti_m5, ti_m4, ti_m3, ti_m2, ti_m1, ti_0, ti_1, ti_2, ti_3, ti_4, ti_5, ti_6, ti_7, ti_8, ti_9, ti_10, ti_11, ti_12, ti_19, ti_20, ti_21, ti_44, ti_45, ti_48, ti_57, ti_59, ti_60, ti_98, ti_99, ti_100, ti_101, ti_103, ti_108, ti_110, ti_114, ti_127]); omega) | (split <;> omega))
            refine ⟨hi126, ?_⟩
            have hz127 := vlt hi126
            refine ⟨_, s_X3_become ((rst (vlt (hi124)))) ((rst (vlt (hi126))))  hI119 , ?_⟩
            intro lg128 it129 hq
            obtain ⟨hI130, hK131⟩ := hq
            have hK132 : Kc (fun j => (55 ≤ j ∧ j < 450)) lg0 it0 lg128 it129 := kc_t hK120 hK131 (fun j hj => by first | omega | exact False.elim hj | (dsimp only at hj ⊢; omega))
            try have f135 : ((x3 + 1) : Int32).toInt = (x3).toInt + 1 := ad32 (a := (x3).toInt) (b := 1) (rfl) (ti_1) (by omega) (by omega)
            have hi136 : vp_in (x3 + 1) 21 := vp_of (by first | omega | ((try simp only [Int32.lt_iff_toInt_lt, Int32.le_iff_toInt_le, ← Int32.toInt_inj, Int32.toInt_toInt64, ti_m14, ti_m13, ti_m12, ti_m11, ti_m10, ti_m9, ti_m6, ti_m5, ti_m4, ti_m3, ti_m2, ti_m1, ti_0, ti_1, ti_2, ti_3, ti_4, ti_5, ti_6, ti_7, ti_8, ti_9, ti_10, ti_11, ti_12, ti_19, ti_20, ti_21, ti_44, ti_45, ti_48, ti_57, ti_59, ti_60, ti_98, ti_99, ti_100, ti_101, ti_103, ti_108, ti_110, ti_114, ti_127]); omega) | (split <;> omega)) (by first | omega | ((try simp only [Int32.lt_iff_toInt_lt, Int32.le_iff_toInt_le, ← Int32.toInt_inj, Int32.toInt_toInt64, ti_m14, ti_m13, ti_m12, ti_m11, ti_m10, ti_m9, ti_m6, ti_m5, ti_m4, ti_m3, ti_m2, ti_m1, ti_0, ti_1, ti_2, ti_3, ti_4, ti_5, ti_6, ti_7, ti_8, ti_9, ti_10, ti_11, ti_12, ti_19, ti_20, ti_21, ti_44, ti_45, ti_48, ti_57, ti_59, ti_60, ti_98, ti_99, ti_100, ti_101, ti_103, ti_108, ti_110, ti_114, ti_127]); omega) | (split <;> omega))
            refine ⟨hi136, ?_⟩
            have hz137 := vlt hi136
            have hi138 : vp_in x3 21 := vp_of (by first | omega | ((try simp only [Int32.lt_iff_toInt_lt, Int32.le_iff_toInt_le, ← Int32.toInt_inj, Int32.toInt_toInt64, ti_m14, ti_m13, ti_m12, ti_m11, ti_m10, ti_m9, ti_m6, ti_m5, ti_m4, ti_m3, ti_m2, ti_m1, ti_0, ti_1, ti_2, ti_3, ti_4, ti_5, ti_6, ti_7, ti_8, ti_9, ti_10, ti_11, ti_12, ti_19, ti_20, ti_21, ti_44, ti_45, ti_48, ti_57, ti_59, ti_60, ti_98, ti_99, ti_100, ti_101, ti_103, ti_108, ti_110, ti_114, ti_127]); omega) | (split <;> omega)) (by first | omega | ((try simp only [Int32.lt_iff_toInt_lt, Int32.le_iff_toInt_le, ← Int32.toInt_inj, Int32.toInt_toInt64, ti_m14, ti_m13, ti_m12, ti_m11, ti_m10, ti_m9, ti_m6, ti_m5, ti_m4, ti_m3, ti_m2, ti_m1, ti_0, ti_1, ti_2, ti_3, ti_4, ti_5, ti_6, ti_7, ti_8, ti_9, ti_10, ti_11, ti_12, ti_19, ti_20, ti_21, ti_44, ti_45, ti_48, ti_57, ti_59, ti_60, ti_98, ti_99, ti_100, ti_101, ti_103, ti_108, ti_110, ti_114, ti_127]); omega) | (split <;> omega))
            refine ⟨hi138, ?_⟩
            have hz139 := vlt hi138
            have hc142 : it129 (75 + 18 * x3.toNatClampNeg) 2 &&& 1 = it129 (75 + 18 * x3.toNatClampNeg) 2 := ib (i8_1 hI130 ((rti (vlt (hi138)))))
            refine ⟨hc142, ?_⟩
            intro lg140 em_lg140 it141 em_it141
            have hI143 : I8 lg140 it141 := by rw [em_it141]; exact i8_u hI130 (ok8_1 ((rti (vlt (hi136)))) (fun _ => i8_1 hI130 ((rti (vlt (hi138))))))
            have hK144 : Kc (fun j => (55 ≤ j ∧ j < 450)) lg0 it0 lg140 it141 := by rw [em_lg140, em_it141]; exact kc_f (by first | omega | (dsimp only; omega)) hK132
            refine ⟨_, s_X5_find ((rst (vlt (hi124))))  hI143 , ?_⟩
            intro v150 lg145 it146 hq
            obtain ⟨⟨hI147, hK148⟩, ha151⟩ := hq
            have hK149 : Kc (fun j => (55 ≤ j ∧ j < 450)) lg0 it0 lg145 it146 := kc_t hK144 hK148 (fun j hj => by first | omega | exact False.elim hj | (dsimp only at hj ⊢; omega))
            have e152 : (it146 (58 + 18 * (x3 + 1).toNatClampNeg) 0) = (it141 (58 + 18 * (x3 + 1).toNatClampNeg) 0) := congrFun (hK148 (58 + 18 * (x3 + 1).toNatClampNeg) (by first | omega | (dsimp only; omega))).2 0
            rw [← e152] at ha151
            refine ⟨fun c123 => ?_, fun c123 => ?_⟩
            · try simp only [Int32.lt_iff_toInt_lt, Int32.le_iff_toInt_le, ← Int32.toInt_inj, Int32.toInt_toInt64, ti_m14, ti_m13, ti_m12, ti_m11, ti_m10, ti_m9, ti_m6, ti_m5, ti_m4, ti_m3, ti_m2, ti_m1, ti_0, ti_1, ti_2, ti_3, ti_4, ti_5, ti_6, ti_7, ti_8, ti_9, ti_10, ti_11, ti_12, ti_19, ti_20, ti_21, ti_44, ti_45, ti_48, ti_57, ti_59, ti_60, ti_98, ti_99, ti_100, ti_101, ti_103, ti_108, ti_110, ti_114, ti_127] at c123
              refine ⟨fun c136 => ?_, fun c136 => ?_⟩
              · try simp only [Int32.lt_iff_toInt_lt, Int32.le_iff_toInt_le, ← Int32.toInt_inj, Int32.toInt_toInt64, ti_m14, ti_m13, ti_m12, ti_m11, ti_m10, ti_m9, ti_m6, ti_m5, ti_m4, ti_m3, ti_m2, ti_m1, ti_0, ti_1, ti_2, ti_3, ti_4, ti_5, ti_6, ti_7, ti_8, ti_9, ti_10, ti_11, ti_12, ti_19, ti_20, ti_21, ti_44, ti_45, ti_48, ti_57, ti_59, ti_60, ti_98, ti_99, ti_100, ti_101, ti_103, ti_108, ti_110, ti_114, ti_127] at c136
                intro it153 em154
                have hI155 : I8 lg145 it153 := by rw [em154]; exact i8_u hI147 (ok8_0 (oq_55) (fun q => absurd q (by decide)))
                have hK156 : Kc (fun j => (55 ≤ j ∧ j < 450)) lg0 it0 lg145 it153 := by rw [em154]; exact kc_u (by first | omega | (dsimp only; omega)) hK149
                subst hp
                exact ⟨hI155, hK156⟩
              · try simp only [Int32.lt_iff_toInt_lt, Int32.le_iff_toInt_le, ← Int32.toInt_inj, Int32.toInt_toInt64, ti_m14, ti_m13, ti_m12, ti_m11, ti_m10, ti_m9, ti_m6, ti_m5, ti_m4, ti_m3, ti_m2, ti_m1, ti_0, ti_1, ti_2, ti_3, ti_4, ti_5, ti_6, ti_7, ti_8, ti_9, ti_10, ti_11, ti_12, ti_19, ti_20, ti_21, ti_44, ti_45, ti_48, ti_57, ti_59, ti_60, ti_98, ti_99, ti_100, ti_101, ti_103, ti_108, ti_110, ti_114, ti_127] at c136
                try have f157 : ((x3 + 1) : Int32).toInt = (x3).toInt + 1 := ad32 (a := (x3).toInt) (b := 1) (rfl) (ti_1) (by omega) (by omega)
                have hi158 : vp_in (x3 + 1) 21 := vp_of (by first | omega | ((try simp only [Int32.lt_iff_toInt_lt, Int32.le_iff_toInt_le, ← Int32.toInt_inj, Int32.toInt_toInt64, ti_m14, ti_m13, ti_m12, ti_m11, ti_m10, ti_m9, ti_m6, ti_m5, ti_m4, ti_m3, ti_m2, ti_m1, ti_0, ti_1, ti_2, ti_3, ti_4, ti_5, ti_6, ti_7, ti_8, ti_9, ti_10, ti_11, ti_12, ti_19, ti_20, ti_21, ti_44, ti_45, ti_48, ti_57, ti_59, ti_60, ti_98, ti_99, ti_100, ti_101, ti_103, ti_108, ti_110, ti_114, ti_127]); omega) | (split <;> omega)) (by first | omega | ((try simp only [Int32.lt_iff_toInt_lt, Int32.le_iff_toInt_le, ← Int32.toInt_inj, Int32.toInt_toInt64, ti_m14, ti_m13, ti_m12, ti_m11, ti_m10, ti_m9, ti_m6, ti_m5, ti_m4, ti_m3, ti_m2, ti_m1, ti_0, ti_1, ti_2, ti_3, ti_4, ti_5, ti_6, ti_7, ti_8, ti_9, ti_10, ti_11, ti_12, ti_19, ti_20, ti_21, ti_44, ti_45, ti_48, ti_57, ti_59, ti_60, ti_98, ti_99, ti_100, ti_101, ti_103, ti_108, ti_110, ti_114, ti_127]); omega) | (split <;> omega))
                refine ⟨hi158, ?_⟩
                have hz159 := vlt hi158
                refine ⟨_, s_X5_strike ((rst (vlt (hi124)))) ((rti (vlt (hi158)))) (v150) hI147 (by omega) (by omega), ?_⟩
                intro v165 lg160 it161 hq
                obtain ⟨⟨hI162, hK163⟩, ha166⟩ := hq
                have hK164 : Kc (fun j => (55 ≤ j ∧ j < 450)) lg0 it0 lg160 it161 := kc_t hK149 hK163 (fun j hj => by first | omega | exact False.elim hj | (dsimp only at hj ⊢; omega))
                refine ⟨fun c158 => ?_, fun c158 => ?_⟩
                · try simp only [Int32.lt_iff_toInt_lt, Int32.le_iff_toInt_le, ← Int32.toInt_inj, Int32.toInt_toInt64, ti_m14, ti_m13, ti_m12, ti_m11, ti_m10, ti_m9, ti_m6, ti_m5, ti_m4, ti_m3, ti_m2, ti_m1, ti_0, ti_1, ti_2, ti_3, ti_4, ti_5, ti_6, ti_7, ti_8, ti_9, ti_10, ti_11, ti_12, ti_19, ti_20, ti_21, ti_44, ti_45, ti_48, ti_57, ti_59, ti_60, ti_98, ti_99, ti_100, ti_101, ti_103, ti_108, ti_110, ti_114, ti_127] at c158
                  have hi167 : vp_in x3 20 := vp_of (by first | omega | ((try simp only [Int32.lt_iff_toInt_lt, Int32.le_iff_toInt_le, ← Int32.toInt_inj, Int32.toInt_toInt64, ti_m14, ti_m13, ti_m12, ti_m11, ti_m10, ti_m9, ti_m6, ti_m5, ti_m4, ti_m3, ti_m2, ti_m1, ti_0, ti_1, ti_2, ti_3, ti_4, ti_5, ti_6, ti_7, ti_8, ti_9, ti_10, ti_11, ti_12, ti_19, ti_20, ti_21, ti_44, ti_45, ti_48, ti_57, ti_59, ti_60, ti_98, ti_99, ti_100, ti_101, ti_103, ti_108, ti_110, ti_114, ti_127]); omega) | (split <;> omega)) (by first | omega | ((try simp only [Int32.lt_iff_toInt_lt, Int32.le_iff_toInt_le, ← Int32.toInt_inj, Int32.toInt_toInt64, ti_m14, ti_m13, ti_m12, ti_m11, ti_m10, ti_m9, ti_m6, ti_m5, ti_m4, ti_m3, ti_m2, ti_m1, ti_0, ti_1, ti_2, ti_3, ti_4, ti_5, ti_6, ti_7, ti_8, ti_9, ti_10, ti_11, ti_12, ti_19, ti_20, ti_21, ti_44, ti_45, ti_48, ti_57, ti_59, ti_60, ti_98, ti_99, ti_100, ti_101, ti_103, ti_108, ti_110, ti_114, ti_127]); omega) | (split <;> omega))
                  refine ⟨hi167, ?_⟩
                  have hz168 := vlt hi167
                  intro it169 em170
                  have hI171 : I8 lg160 it169 := by rw [em170]; exact i8_u hI162 (ok8_a (oq_436) (by decide))
                  have hK172 : Kc (fun j => (55 ≤ j ∧ j < 450)) lg0 it0 lg160 it169 := by rw [em170]; exact kc_u (by first | omega | (dsimp only; omega)) hK164
                  try have f173 : ((x3 + 1) : Int32).toInt = (x3).toInt + 1 := ad32 (a := (x3).toInt) (b := 1) (rfl) (ti_1) (by omega) (by omega)
                  intro it174 em175
                  have hI176 : I8 lg160 it174 := by rw [em175]; exact i8_u hI171 (ok8_0 (oq_55) (fun _ => by (try simp only [Int32.lt_iff_toInt_lt, Int32.le_iff_toInt_le, ← Int32.toInt_inj, Int32.toInt_toInt64, ti_m14, ti_m13, ti_m12, ti_m11, ti_m10, ti_m9, ti_m6, ti_m5, ti_m4, ti_m3, ti_m2, ti_m1, ti_0, ti_1, ti_2, ti_3, ti_4, ti_5, ti_6, ti_7, ti_8, ti_9, ti_10, ti_11, ti_12, ti_19, ti_20, ti_21, ti_44, ti_45, ti_48, ti_57, ti_59, ti_60, ti_98, ti_99, ti_100, ti_101, ti_103, ti_108, ti_110, ti_114, ti_127]); omega))
                  have hK177 : Kc (fun j => (55 ≤ j ∧ j < 450)) lg0 it0 lg160 it174 := by rw [em175]; exact kc_u (by first | omega | (dsimp only; omega)) hK172
                  try have f178 : ((x3 + 1) : Int32).toInt = (x3).toInt + 1 := ad32 (a := (x3).toInt) (b := 1) (rfl) (ti_1) (by omega) (by omega)
                  exact ih59 ((x3 + 1)) _ _ hI176 hK177 (by first | omega | assumption) (by omega)
                · try simp only [Int32.lt_iff_toInt_lt, Int32.le_iff_toInt_le, ← Int32.toInt_inj, Int32.toInt_toInt64, ti_m14, ti_m13, ti_m12, ti_m11, ti_m10, ti_m9, ti_m6, ti_m5, ti_m4, ti_m3, ti_m2, ti_m1, ti_0, ti_1, ti_2, ti_3, ti_4, ti_5, ti_6, ti_7, ti_8, ti_9, ti_10, ti_11, ti_12, ti_19, ti_20, ti_21, ti_44, ti_45, ti_48, ti_57, ti_59, ti_60, ti_98, ti_99, ti_100, ti_101, ti_103, ti_108, ti_110, ti_114, ti_127] at c158
                  intro it179 em180
                  have hI181 : I8 lg160 it179 := by rw [em180]; exact i8_u hI162 (ok8_0 (oq_55) (fun q => absurd q (by decide)))
                  have hK182 : Kc (fun j => (55 ≤ j ∧ j < 450)) lg0 it0 lg160 it179 := by rw [em180]; exact kc_u (by first | omega | (dsimp only; omega)) hK164
                  subst hp
                  exact ⟨hI181, hK182⟩
            · try simp only [Int32.lt_iff_toInt_lt, Int32.le_iff_toInt_le, ← Int32.toInt_inj, Int32.toInt_toInt64, ti_m14, ti_m13, ti_m12, ti_m11, ti_m10, ti_m9, ti_m6, ti_m5, ti_m4, ti_m3, ti_m2, ti_m1, ti_0, ti_1, ti_2, ti_3, ti_4, ti_5, ti_6, ti_7, ti_8, ti_9, ti_10, ti_11, ti_12, ti_19, ti_20, ti_21, ti_44, ti_45, ti_48, ti_57, ti_59, ti_60, ti_98, ti_99, ti_100, ti_101, ti_103, ti_108, ti_110, ti_114, ti_127] at c123
              intro it183 em184
              have hI185 : I8 lg145 it183 := by rw [em184]; exact i8_u hI147 (ok8_0 (oq_55) (fun q => absurd q (by decide)))
              have hK186 : Kc (fun j => (55 ≤ j ∧ j < 450)) lg0 it0 lg145 it183 := by rw [em184]; exact kc_u (by first | omega | (dsimp only; omega)) hK149
              subst hp
              exact ⟨hI185, hK186⟩
    have t187 := ti_0
    exact ⟨_, lp59 ((21 - ((0 : Int32)).toInt).toNat + 1) ((0 : Int32)) _ _ hI116 hK117 (by first | omega | assumption) (Nat.lt_succ_self _)⟩
  · try simp only [Int32.lt_iff_toInt_lt, Int32.le_iff_toInt_le, ← Int32.toInt_inj, Int32.toInt_toInt64, ti_m14, ti_m13, ti_m12, ti_m11, ti_m10, ti_m9, ti_m6, ti_m5, ti_m4, ti_m3, ti_m2, ti_m1, ti_0, ti_1, ti_2, ti_3, ti_4, ti_5, ti_6, ti_7, ti_8, ti_9, ti_10, ti_11, ti_12, ti_19, ti_20, ti_21, ti_44, ti_45, ti_48, ti_57, ti_59, ti_60, ti_98, ti_99, ti_100, ti_101, ti_103, ti_108, ti_110, ti_114, ti_127] at c5
    refine ⟨_, s_X3_isLike (in_rb_58) (ha1)  hI , ?_⟩
    intro v193 lg188 it189 hq
    obtain ⟨⟨hI190, hK191⟩, ha194⟩ := hq
    have hK192 : Kc (fun j => (55 ≤ j ∧ j < 450)) lg0 it0 lg188 it189 := kc_t hKr hK191 (fun j hj => by first | omega | exact False.elim hj | (dsimp only at hj ⊢; omega))
    try have e195 : (it189 55 5).toInt = (it0 55 5).toInt := congrArg (fun f => Int32.toInt (f 5)) (hK191 55 (by first | omega | (dsimp only; omega))).2
    refine ⟨fun c18 => ?_, fun c18 => ?_⟩
    · try simp only [Int32.lt_iff_toInt_lt, Int32.le_iff_toInt_le, ← Int32.toInt_inj, Int32.toInt_toInt64, ti_m14, ti_m13, ti_m12, ti_m11, ti_m10, ti_m9, ti_m6, ti_m5, ti_m4, ti_m3, ti_m2, ti_m1, ti_0, ti_1, ti_2, ti_3, ti_4, ti_5, ti_6, ti_7, ti_8, ti_9, ti_10, ti_11, ti_12, ti_19, ti_20, ti_21, ti_44, ti_45, ti_48, ti_57, ti_59, ti_60, ti_98, ti_99, ti_100, ti_101, ti_103, ti_108, ti_110, ti_114, ti_127] at c18
      unfold w_X0_work_b22
      intro it196 em197
      have hI198 : I8 lg188 it196 := by rw [em197]; exact i8_u hI190 (ok8_0 (oq_55) (fun q => absurd q (by decide)))
      have hK199 : Kc (fun j => (55 ≤ j ∧ j < 450)) lg0 it0 lg188 it196 := by rw [em197]; exact kc_u (by first | omega | (dsimp only; omega)) hK192
      refine ⟨_, s_X3_become (in_rb_58) (ha1)  hI198 , ?_⟩
      intro lg201 it202 hq
      obtain ⟨hI203, hK204⟩ := hq
      have hK205 : Kc (fun j => (55 ≤ j ∧ j < 450)) lg0 it0 lg201 it202 := kc_t hK199 hK204 (fun j hj => by first | omega | exact False.elim hj | (dsimp only at hj ⊢; omega))
      try have e208 : (it202 55 5).toInt = (it196 55 5).toInt := congrArg (fun f => Int32.toInt (f 5)) (hK204 55 (by first | omega | (dsimp only; omega))).2
      intro lg209 em_lg209 it210 em_it210
      have hI211 : I8 lg209 it210 := by rw [em_it210]; exact i8_u hI203 (ok8_1 (oq_75) (fun _ => Or.inl rfl))
      have hK212 : Kc (fun j => (55 ≤ j ∧ j < 450)) lg0 it0 lg209 it210 := by rw [em_lg209, em_it210]; exact kc_f (by first | omega | (dsimp only; omega)) hK205
      have e213 : (it210 55 5).toInt = (it202 55 5).toInt := by rw [em_it210]; exact congrArg Int32.toInt (congrFun (u2_row (by decide)) 5)
      intro it214 em215
      have hI216 : I8 lg209 it214 := by rw [em215]; exact i8_u hI211 (ok8_0 (oq_55) (fun _ => by (try simp only [Int32.lt_iff_toInt_lt, Int32.le_iff_toInt_le, ← Int32.toInt_inj, Int32.toInt_toInt64, ti_m14, ti_m13, ti_m12, ti_m11, ti_m10, ti_m9, ti_m6, ti_m5, ti_m4, ti_m3, ti_m2, ti_m1, ti_0, ti_1, ti_2, ti_3, ti_4, ti_5, ti_6, ti_7, ti_8, ti_9, ti_10, ti_11, ti_12, ti_19, ti_20, ti_21, ti_44, ti_45, ti_48, ti_57, ti_59, ti_60, ti_98, ti_99, ti_100, ti_101, ti_103, ti_108, ti_110, ti_114, ti_127]); omega))
      have hK217 : Kc (fun j => (55 ≤ j ∧ j < 450)) lg0 it0 lg209 it214 := by rw [em215]; exact kc_u (by first | omega | (dsimp only; omega)) hK212
      have e218 : (it214 55 5).toInt = (it210 55 5).toInt := by rw [em215]; exact congrArg Int32.toInt (u2_ne (by decide))
      intro it219 em220
      have hI221 : I8 lg209 it219 := by rw [em220]; exact i8_u hI216 (ok8_0 (oq_55) (fun q => absurd q (by decide)))
      have hK222 : Kc (fun j => (55 ≤ j ∧ j < 450)) lg0 it0 lg209 it219 := by rw [em220]; exact kc_u (by first | omega | (dsimp only; omega)) hK217
      have e223 : (it219 55 5).toInt = (it214 55 5).toInt := by rw [em220]; exact congrArg Int32.toInt (u2_ne (by decide))
      have lp59 : ∀ (n : Nat) (x3 : Int32) (lg : LGt) (it : ITt), I8 lg it → Kc (fun j => (55 ≤ j ∧ j < 450)) lg0 it0 lg it → ((0 ≤ (x3).toInt)) → (21 - (x3).toInt).toNat < n → w_X0_work_b59 a1 a2 Pz  n x3 lg it := by
        intro n59
        induction n59 with
        | zero => intro x3 lg it _ _ _ hn; exact absurd hn (Nat.not_lt_zero _)
        | succ n59 ih59 =>
          intro x3 lg226 it227 hI224 hK225 hv hn
          unfold w_X0_work_b59
          have hv59_0 := hv
          refine ⟨fun c61 => ?_, fun c61 => ?_⟩
          · try simp only [Int32.lt_iff_toInt_lt, Int32.le_iff_toInt_le, ← Int32.toInt_inj, Int32.toInt_toInt64, ti_m14, ti_m13, ti_m12, ti_m11, ti_m10, ti_m9, ti_m6, ti_m5, ti_m4, ti_m3, ti_m2, ti_m1, ti_0, ti_1, ti_2, ti_3, ti_4, ti_5, ti_6, ti_7, ti_8, ti_9, ti_10, ti_11, ti_12, ti_19, ti_20, ti_21, ti_44, ti_45, ti_48, ti_57, ti_59, ti_60, ti_98, ti_99, ti_100, ti_101, ti_103, ti_108, ti_110, ti_114, ti_127] at c61
            subst hp
            exact ⟨hI224, hK225⟩
          · try simp only [Int32.lt_iff_toInt_lt, Int32.le_iff_toInt_le, ← Int32.toInt_inj, Int32.toInt_toInt64, ti_m14, ti_m13, ti_m12, ti_m11, ti_m10, ti_m9, ti_m6, ti_m5, ti_m4, ti_m3, ti_m2, ti_m1, ti_0, ti_1, ti_2, ti_3, ti_4, ti_5, ti_6, ti_7, ti_8, ti_9, ti_10, ti_11, ti_12, ti_19, ti_20, ti_21, ti_44, ti_45, ti_48, ti_57, ti_59, ti_60, ti_98, ti_99, ti_100, ti_101, ti_103, ti_108, ti_110, ti_114, ti_127] at c61
            refine ⟨fun c67 => ?_, fun c67 => ?_⟩
            · try simp only [Int32.lt_iff_toInt_lt, Int32.le_iff_toInt_le, ← Int32.toInt_inj, Int32.toInt_toInt64, ti_m14, ti_m13, ti_m12, ti_m11, ti_m10, ti_m9, ti_m6, ti_m5, ti_m4, ti_m3, ti_m2, ti_m1, ti_0, ti_1, ti_2, ti_3, ti_4, ti_5, ti_6, ti_7, ti_8, ti_9, ti_10, ti_11, ti_12, ti_19, ti_20, ti_21, ti_44, ti_45, ti_48, ti_57, ti_59, ti_60, ti_98, ti_99, ti_100, ti_101, ti_103, ti_108, ti_110, ti_114, ti_127] at c67
              subst hp
              exact ⟨hI224, hK225⟩
            · try simp only [Int32.lt_iff_toInt_lt, Int32.le_iff_toInt_le, ← Int32.toInt_inj, Int32.toInt_toInt64, ti_m14, ti_m13, ti_m12, ti_m11, ti_m10, ti_m9, ti_m6, ti_m5, ti_m4, ti_m3, ti_m2, ti_m1, ti_0, ti_1, ti_2, ti_3, ti_4, ti_5, ti_6, ti_7, ti_8, ti_9, ti_10, ti_11, ti_12, ti_19, ti_20, ti_21, ti_44, ti_45, ti_48, ti_57, ti_59, ti_60, ti_98, ti_99, ti_100, ti_101, ti_103, ti_108, ti_110, ti_114, ti_127] at c67
              try have f228 : ((x3 + 1) : Int32).toInt = (x3).toInt + 1 := ad32 (a := (x3).toInt) (b := 1) (rfl) (ti_1) (by omega) (by omega)
              have hi229 : vp_in (x3 + 1) 21 := vp_of (by first | omega | ((try simp only [Int32.lt_iff_toInt_lt, Int32.le_iff_toInt_le, ← Int32.toInt_inj, Int32.toInt_toInt64, ti_m14, ti_m13, ti_m12, ti_m11, ti_m10, ti_m9, ti_m6, ti_m5, ti_m4, ti_m3, ti_m2, ti_m1, ti_0, ti_1, ti_2, ti_3, ti_4, ti_5, ti_6, ti_7, ti_8, ti_9, ti_10, ti_11, ti_12, ti_19, ti_20, ti_21, ti_44, ti_45, ti_48, ti_57, ti_59, ti_60, ti_98, ti_99, ti_100, ti_101, ti_103, ti_108, ti_110, ti_114, ti_127]); omega) | (split <;> omega)) (by first | omega | ((try simp only [Int32.lt_iff_toInt_lt, Int32.le_iff_toInt_le, ← Int32.toInt_inj, Int32.toInt_toInt64, ti_m14, ti_m13, ti_m12, ti_m11, ti_m10, ti_m9, ti_m6, ti_m5, ti_m4, ti_m3, ti_m2, ti_m1, ti_0, ti_1, ti_2, ti_3, ti_4, ti_5, ti_6, ti_7, ti_8, ti_9, ti_10, ti_11, ti_12, ti_19, ti_20, ti_21, ti_44, ti_45, ti_48, ti_57, ti_59, ti_60, ti_98, ti_99, ti_100, ti_101, ti_103, ti_108, ti_110, ti_114, ti_127]); omega) | (split <;> omega))
              refine ⟨hi229, ?_⟩
              have hz230 := vlt hi229
              have hi231 : vp_in x3 21 := vp_of (by first | omega | ((try simp only [Int32.lt_iff_toInt_lt, Int32.le_iff_toInt_le, ← Int32.toInt_inj, Int32.toInt_toInt64, ti_m14, ti_m13, ti_m12, ti_m11, ti_m10, ti_m9, ti_m6, ti_m5, ti_m4, ti_m3, ti_m2, ti_m1, ti_0, ti_1, ti_2, ti_3, ti_4, ti_5, ti_6, ti_7, ti_8, ti_9, ti_10, ti_11, ti_12, ti_19, ti_20, ti_21, ti_44, ti_45, ti_48, ti_57, ti_59, ti_60, ti_98, ti_99, ti_100, ti_101, ti_103, ti_108, ti_110, ti_114, ti_127]); omega) | (split <;> omega)) (by first | omega | ((try simp only [Int32.lt_iff_toInt_lt, Int32.le_iff_toInt_le, ← Int32.toInt_inj, Int32.toInt_toInt64, ti_m14, ti_m13, ti_m12, ti_m11, ti_m10, ti_m9, ti_m6, ti_m5, ti_m4, ti_m3, ti_m2, ti_m1, ti_0, ti_1, ti_2, ti_3, ti_4, ti_5, ti_6, ti_7, ti_8, ti_9, ti_10, ti_11, ti_12, ti_19, ti_20, ti_21, ti_44, ti_45, ti_48, ti_57, ti_59, ti_60, ti_98, ti_99, ti_100, ti_101, ti_103, ti_108, ti_110, ti_114, ti_127]); omega) | (split <;> omega))
              refine ⟨hi231, ?_⟩
              have hz232 := vlt hi231
              refine ⟨_, s_X3_become ((rst (vlt (hi229)))) ((rst (vlt (hi231))))  hI224 , ?_⟩
              intro lg233 it234 hq
              obtain ⟨hI235, hK236⟩ := hq
              have hK237 : Kc (fun j => (55 ≤ j ∧ j < 450)) lg0 it0 lg233 it234 := kc_t hK225 hK236 (fun j hj => by first | omega | exact False.elim hj | (dsimp only at hj ⊢; omega))
              try have f240 : ((x3 + 1) : Int32).toInt = (x3).toInt + 1 := ad32 (a := (x3).toInt) (b := 1) (rfl) (ti_1) (by omega) (by omega)
              have hi241 : vp_in (x3 + 1) 21 := vp_of (by first | omega | ((try simp only [Int32.lt_iff_toInt_lt, Int32.le_iff_toInt_le, ← Int32.toInt_inj, Int32.toInt_toInt64, ti_m14, ti_m13, ti_m12, ti_m11, ti_m10, ti_m9, ti_m6, ti_m5, ti_m4, ti_m3, ti_m2, ti_m1, ti_0, ti_1, ti_2, ti_3, ti_4, ti_5, ti_6, ti_7, ti_8, ti_9, ti_10, ti_11, ti_12, ti_19, ti_20, ti_21, ti_44, ti_45, ti_48, ti_57, ti_59, ti_60, ti_98, ti_99, ti_100, ti_101, ti_103, ti_108, ti_110, ti_114, ti_127]); omega) | (split <;> omega)) (by first | omega | ((try simp only [Int32.lt_iff_toInt_lt, Int32.le_iff_toInt_le, ← Int32.toInt_inj, Int32.toInt_toInt64, ti_m14, ti_m13, ti_m12, ti_m11, ti_m10, ti_m9, ti_m6, ti_m5, ti_m4, ti_m3, ti_m2, ti_m1, ti_0, ti_1, ti_2, ti_3, ti_4, ti_5, ti_6, ti_7, ti_8, ti_9, ti_10, ti_11, ti_12, ti_19, ti_20, ti_21, ti_44, ti_45, ti_48, ti_57, ti_59, ti_60, ti_98, ti_99, ti_100, ti_101, ti_103, ti_108, ti_110, ti_114, ti_127]); omega) | (split <;> omega))
              refine ⟨hi241, ?_⟩
              have hz242 := vlt hi241
              have hi243 : vp_in x3 21 := vp_of (by first | omega | ((try simp only [Int32.lt_iff_toInt_lt, Int32.le_iff_toInt_le, ← Int32.toInt_inj, Int32.toInt_toInt64, ti_m14, ti_m13, ti_m12, ti_m11, ti_m10, ti_m9, ti_m6, ti_m5, ti_m4, ti_m3, ti_m2, ti_m1, ti_0, ti_1, ti_2, ti_3, ti_4, ti_5, ti_6, ti_7, ti_8, ti_9, ti_10, ti_11, ti_12, ti_19, ti_20, ti_21, ti_44, ti_45, ti_48, ti_57, ti_59, ti_60, ti_98, ti_99, ti_100, ti_101, ti_103, ti_108, ti_110, ti_114, ti_127]); omega) | (split <;> omega)) (by first | omega | ((try simp only [Int32.lt_iff_toInt_lt, Int32.le_iff_toInt_le, ← Int32.toInt_inj, Int32.toInt_toInt64, ti_m14, ti_m13, ti_m12, ti_m11, ti_m10, ti_m9, ti_m6, ti_m5, ti_m4, ti_m3, ti_m2, ti_m1, ti_0, ti_1, ti_2, ti_3, ti_4, ti_5, ti_6, ti_7, ti_8, ti_9, ti_10, ti_11, ti_12, ti_19, ti_20, ti_21, ti_44, ti_45, ti_48, ti_57, ti_59, ti_60, ti_98, ti_99, ti_100, ti_101, ti_103, ti_108, ti_110, ti_114, ti_127]); omega) | (split <;> omega))
              refine ⟨hi243, ?_⟩
              have hz244 := vlt hi243
              have hc247 : it234 (75 + 18 * x3.toNatClampNeg) 2 &&& 1 = it234 (75 + 18 * x3.toNatClampNeg) 2 := ib (i8_1 hI235 ((rti (vlt (hi243)))))
              refine ⟨hc247, ?_⟩
              intro lg245 em_lg245 it246 em_it246
              have hI248 : I8 lg245 it246 := by rw [em_it246]; exact i8_u hI235 (ok8_1 ((rti (vlt (hi241)))) (fun _ => i8_1 hI235 ((rti (vlt (hi243))))))
              have hK249 : Kc (fun j => (55 ≤ j ∧ j < 450)) lg0 it0 lg245 it246 := by rw [em_lg245, em_it246]; exact kc_f (by first | omega | (dsimp only; omega)) hK237
              refine ⟨_, s_X5_find ((rst (vlt (hi229))))  hI248 , ?_⟩
              intro v255 lg250 it251 hq
              obtain ⟨⟨hI252, hK253⟩, ha256⟩ := hq
              have hK254 : Kc (fun j => (55 ≤ j ∧ j < 450)) lg0 it0 lg250 it251 := kc_t hK249 hK253 (fun j hj => by first | omega | exact False.elim hj | (dsimp only at hj ⊢; omega))
              have e257 : (it251 (58 + 18 * (x3 + 1).toNatClampNeg) 0) = (it246 (58 + 18 * (x3 + 1).toNatClampNeg) 0) := congrFun (hK253 (58 + 18 * (x3 + 1).toNatClampNeg) (by first | omega | (dsimp only; omega))).2 0
              rw [← e257] at ha256
              refine ⟨fun c123 => ?_, fun c123 => ?_⟩
              · try simp only [Int32.lt_iff_toInt_lt, Int32.le_iff_toInt_le, ← Int32.toInt_inj, Int32.toInt_toInt64, ti_m14, ti_m13, ti_m12, ti_m11, ti_m10, ti_m9, ti_m6, ti_m5, ti_m4, ti_m3, ti_m2, ti_m1, ti_0, ti_1, ti_2, ti_3, ti_4, ti_5, ti_6, ti_7, ti_8, ti_9, ti_10, ti_11, ti_12, ti_19, ti_20, ti_21, ti_44, ti_45, ti_48, ti_57, ti_59, ti_60, ti_98, ti_99, ti_100, ti_101, ti_103, ti_108, ti_110, ti_114, ti_127] at c123
                refine ⟨fun c136 => ?_, fun c136 => ?_⟩
                · try simp only [Int32.lt_iff_toInt_lt, Int32.le_iff_toInt_le, ← Int32.toInt_inj, Int32.toInt_toInt64, ti_m14, ti_m13, ti_m12, ti_m11, ti_m10, ti_m9, ti_m6, ti_m5, ti_m4, ti_m3, ti_m2, ti_m1, ti_0, ti_1, ti_2, ti_3, ti_4, ti_5, ti_6, ti_7, ti_8, ti_9, ti_10, ti_11, ti_12, ti_19, ti_20, ti_21, ti_44, ti_45, ti_48, ti_57, ti_59, ti_60, ti_98, ti_99, ti_100, ti_101, ti_103, ti_108, ti_110, ti_114, ti_127] at c136
                  intro it258 em259
                  have hI260 : I8 lg250 it258 := by rw [em259]; exact i8_u hI252 (ok8_0 (oq_55) (fun q => absurd q (by decide)))
                  have hK261 : Kc (fun j => (55 ≤ j ∧ j < 450)) lg0 it0 lg250 it258 := by rw [em259]; exact kc_u (by first | omega | (dsimp only; omega)) hK254
                  subst hp
                  exact ⟨hI260, hK261⟩
                · try simp only [Int32.lt_iff_toInt_lt, Int32.le_iff_toInt_le, ← Int32.toInt_inj, Int32.toInt_toInt64, ti_m14, ti_m13, ti_m12, ti_m11, ti_m10, ti_m9, ti_m6, ti_m5, ti_m4, ti_m3, ti_m2, ti_m1, ti_0, ti_1, ti_2, ti_3, ti_4, ti_5, ti_6, ti_7, ti_8, ti_9, ti_10, ti_11, ti_12, ti_19, ti_20, ti_21, ti_44, ti_45, ti_48, ti_57, ti_59, ti_60, ti_98, ti_99, ti_100, ti_101, ti_103, ti_108, ti_110, ti_114, ti_127] at c136
                  try have f262 : ((x3 + 1) : Int32).toInt = (x3).toInt + 1 := ad32 (a := (x3).toInt) (b := 1) (rfl) (ti_1) (by omega) (by omega)
                  have hi263 : vp_in (x3 + 1) 21 := vp_of (by first | omega | ((try simp only [Int32.lt_iff_toInt_lt, Int32.le_iff_toInt_le, ← Int32.toInt_inj, Int32.toInt_toInt64, ti_m14, ti_m13, ti_m12, ti_m11, ti_m10, ti_m9, ti_m6, ti_m5, ti_m4, ti_m3, ti_m2, ti_m1, ti_0, ti_1, ti_2, ti_3, ti_4, ti_5, ti_6, ti_7, ti_8, ti_9, ti_10, ti_11, ti_12, ti_19, ti_20, ti_21, ti_44, ti_45, ti_48, ti_57, ti_59, ti_60, ti_98, ti_99, ti_100, ti_101, ti_103, ti_108, ti_110, ti_114, ti_127]); omega) | (split <;> omega)) (by first | omega | ((try simp only [Int32.lt_iff_toInt_lt, Int32.le_iff_toInt_le, ← Int32.toInt_inj, Int32.toInt_toInt64, ti_m14, ti_m13, ti_m12, ti_m11, ti_m10, ti_m9, ti_m6, ti_m5, ti_m4, ti_m3, ti_m2, ti_m1, ti_0, ti_1, ti_2, ti_3, ti_4, ti_5, ti_6, ti_7, ti_8, ti_9, ti_10, ti_11, ti_12, ti_19, ti_20, ti_21, ti_44, ti_45, ti_48, ti_57, ti_59, ti_60, ti_98, ti_99, ti_100, ti_101, ti_103, ti_108, ti_110, ti_114, ti_127]); omega) | (split <;> omega))
                  refine ⟨hi263, ?_⟩
                  have hz264 := vlt hi263
                  refine ⟨_, s_X5_strike ((rst (vlt (hi229)))) ((rti (vlt (hi263)))) (v255) hI252 (by omega) (by omega), ?_⟩
                  intro v270 lg265 it266 hq
                  obtain ⟨⟨hI267, hK268⟩, ha271⟩ := hq
                  have hK269 : Kc (fun j => (55 ≤ j ∧ j < 450)) lg0 it0 lg265 it266 := kc_t hK254 hK268 (fun j hj => by first | omega | exact False.elim hj | (dsimp only at hj ⊢; omega))
                  refine ⟨fun c158 => ?_, fun c158 => ?_⟩
                  · try simp only [Int32.lt_iff_toInt_lt, Int32.le_iff_toInt_le, ← Int32.toInt_inj, Int32.toInt_toInt64, ti_m14, ti_m13, ti_m12, ti_m11, ti_m10, ti_m9, ti_m6, ti_m5, ti_m4, ti_m3, ti_m2, ti_m1, ti_0, ti_1, ti_2, ti_3, ti_4, ti_5, ti_6, ti_7, ti_8, ti_9, ti_10, ti_11, ti_12, ti_19, ti_20, ti_21, ti_44, ti_45, ti_48, ti_57, ti_59, ti_60, ti_98, ti_99, ti_100, ti_101, ti_103, ti_108, ti_110, ti_114, ti_127] at c158
                    have hi272 : vp_in x3 20 := vp_of (by first | omega | ((try simp only [Int32.lt_iff_toInt_lt, Int32.le_iff_toInt_le, ← Int32.toInt_inj, Int32.toInt_toInt64, ti_m14, ti_m13, ti_m12, ti_m11, ti_m10, ti_m9, ti_m6, ti_m5, ti_m4, ti_m3, ti_m2, ti_m1, ti_0, ti_1, ti_2, ti_3, ti_4, ti_5, ti_6, ti_7, ti_8, ti_9, ti_10, ti_11, ti_12, ti_19, ti_20, ti_21, ti_44, ti_45, ti_48, ti_57, ti_59, ti_60, ti_98, ti_99, ti_100, ti_101, ti_103, ti_108, ti_110, ti_114, ti_127]); omega) | (split <;> omega)) (by first | omega | ((try simp only [Int32.lt_iff_toInt_lt, Int32.le_iff_toInt_le, ← Int32.toInt_inj, Int32.toInt_toInt64, ti_m14, ti_m13, ti_m12, ti_m11, ti_m10, ti_m9, ti_m6, ti_m5, ti_m4, ti_m3, ti_m2, ti_m1, ti_0, ti_1, ti_2, ti_3, ti_4, ti_5, ti_6, ti_7, ti_8, ti_9, ti_10, ti_11, ti_12, ti_19, ti_20, ti_21, ti_44, ti_45, ti_48, ti_57, ti_59, ti_60, ti_98, ti_99, ti_100, ti_101, ti_103, ti_108, ti_110, ti_114, ti_127]); omega) | (split <;> omega))
                    refine ⟨hi272, ?_⟩
                    have hz273 := vlt hi272
                    intro it274 em275
                    have hI276 : I8 lg265 it274 := by rw [em275]; exact i8_u hI267 (ok8_a (oq_436) (by decide))
                    have hK277 : Kc (fun j => (55 ≤ j ∧ j < 450)) lg0 it0 lg265 it274 := by rw [em275]; exact kc_u (by first | omega | (dsimp only; omega)) hK269
                    try have f278 : ((x3 + 1) : Int32).toInt = (x3).toInt + 1 := ad32 (a := (x3).toInt) (b := 1) (rfl) (ti_1) (by omega) (by omega)
                    intro it279 em280
                    have hI281 : I8 lg265 it279 := by rw [em280]; exact i8_u hI276 (ok8_0 (oq_55) (fun _ => by (try simp only [Int32.lt_iff_toInt_lt, Int32.le_iff_toInt_le, ← Int32.toInt_inj, Int32.toInt_toInt64, ti_m14, ti_m13, ti_m12, ti_m11, ti_m10, ti_m9, ti_m6, ti_m5, ti_m4, ti_m3, ti_m2, ti_m1, ti_0, ti_1, ti_2, ti_3, ti_4, ti_5, ti_6, ti_7, ti_8, ti_9, ti_10, ti_11, ti_12, ti_19, ti_20, ti_21, ti_44, ti_45, ti_48, ti_57, ti_59, ti_60, ti_98, ti_99, ti_100, ti_101, ti_103, ti_108, ti_110, ti_114, ti_127]); omega))
                    have hK282 : Kc (fun j => (55 ≤ j ∧ j < 450)) lg0 it0 lg265 it279 := by rw [em280]; exact kc_u (by first | omega | (dsimp only; omega)) hK277
                    try have f283 : ((x3 + 1) : Int32).toInt = (x3).toInt + 1 := ad32 (a := (x3).toInt) (b := 1) (rfl) (ti_1) (by omega) (by omega)
                    exact ih59 ((x3 + 1)) _ _ hI281 hK282 (by first | omega | assumption) (by omega)
                  · try simp only [Int32.lt_iff_toInt_lt, Int32.le_iff_toInt_le, ← Int32.toInt_inj, Int32.toInt_toInt64, ti_m14, ti_m13, ti_m12, ti_m11, ti_m10, ti_m9, ti_m6, ti_m5, ti_m4, ti_m3, ti_m2, ti_m1, ti_0, ti_1, ti_2, ti_3, ti_4, ti_5, ti_6, ti_7, ti_8, ti_9, ti_10, ti_11, ti_12, ti_19, ti_20, ti_21, ti_44, ti_45, ti_48, ti_57, ti_59, ti_60, ti_98, ti_99, ti_100, ti_101, ti_103, ti_108, ti_110, ti_114, ti_127] at c158
                    intro it284 em285
                    have hI286 : I8 lg265 it284 := by rw [em285]; exact i8_u hI267 (ok8_0 (oq_55) (fun q => absurd q (by decide)))
                    have hK287 : Kc (fun j => (55 ≤ j ∧ j < 450)) lg0 it0 lg265 it284 := by rw [em285]; exact kc_u (by first | omega | (dsimp only; omega)) hK269
                    subst hp
                    exact ⟨hI286, hK287⟩
              · try simp only [Int32.lt_iff_toInt_lt, Int32.le_iff_toInt_le, ← Int32.toInt_inj, Int32.toInt_toInt64, ti_m14, ti_m13, ti_m12, ti_m11, ti_m10, ti_m9, ti_m6, ti_m5, ti_m4, ti_m3, ti_m2, ti_m1, ti_0, ti_1, ti_2, ti_3, ti_4, ti_5, ti_6, ti_7, ti_8, ti_9, ti_10, ti_11, ti_12, ti_19, ti_20, ti_21, ti_44, ti_45, ti_48, ti_57, ti_59, ti_60, ti_98, ti_99, ti_100, ti_101, ti_103, ti_108, ti_110, ti_114, ti_127] at c123
                intro it288 em289
                have hI290 : I8 lg250 it288 := by rw [em289]; exact i8_u hI252 (ok8_0 (oq_55) (fun q => absurd q (by decide)))
                have hK291 : Kc (fun j => (55 ≤ j ∧ j < 450)) lg0 it0 lg250 it288 := by rw [em289]; exact kc_u (by first | omega | (dsimp only; omega)) hK254
                subst hp
                exact ⟨hI290, hK291⟩
      have t292 := ti_0
      exact ⟨_, lp59 ((21 - ((0 : Int32)).toInt).toNat + 1) ((0 : Int32)) _ _ hI221 hK222 (by first | omega | assumption) (Nat.lt_succ_self _)⟩
    · try simp only [Int32.lt_iff_toInt_lt, Int32.le_iff_toInt_le, ← Int32.toInt_inj, Int32.toInt_toInt64, ti_m14, ti_m13, ti_m12, ti_m11, ti_m10, ti_m9, ti_m6, ti_m5, ti_m4, ti_m3, ti_m2, ti_m1, ti_0, ti_1, ti_2, ti_3, ti_4, ti_5, ti_6, ti_7, ti_8, ti_9, ti_10, ti_11, ti_12, ti_19, ti_20, ti_21, ti_44, ti_45, ti_48, ti_57, ti_59, ti_60, ti_98, ti_99, ti_100, ti_101, ti_103, ti_108, ti_110, ti_114, ti_127] at c18
      subst hp
      exact ⟨hI190, hK192⟩
set_option maxRecDepth 100000 in
theorem s_X0_firstUnlike {a1 : Nat} (ha1 : a1 ∈ pb) {lg0 : LGt} {it0 : ITt} (hI : I8 lg0 it0) : w_X0_firstUnlike a1 (fun (v : Int32) (lg' : LGt) (it' : ITt) => (I8 lg' it' ∧ Kc (fun j => False) lg0 it0 lg' it'))  lg0 it0 := by
  have hKr : Kc (fun j => False) lg0 it0 lg0 it0 := kc_r
  generalize hp : (fun (v : Int32) (lg' : LGt) (it' : ITt) => (I8 lg' it' ∧ Kc (fun j => False) lg0 it0 lg' it')) = Pz
  unfold w_X0_firstUnlike
  have hln := pb_len ha1
  have lp2 : ∀ (n : Nat) (x2 : Int32) (lg : LGt) (it : ITt), I8 lg it → Kc (fun j => False) lg0 it0 lg it → ((0 ≤ (x2).toInt)) → (9 - (x2).toInt).toNat < n → w_X0_firstUnlike_b2 a1 Pz  n x2 lg it := by
    intro n2
    induction n2 with
    | zero => intro x2 lg it _ _ _ hn; exact absurd hn (Nat.not_lt_zero _)
    | succ n2 ih2 =>
      intro x2 lg17 it18 hI15 hK16 hv hn
      unfold w_X0_firstUnlike_b2
      have hv2_0 := hv
      have f19 : 0 ≤ (it18 a1 2).toInt ∧ (it18 a1 2).toInt ≤ ((LAY (a1 + 1)).2 : Int) := i8_2 hI15 (obp ha1)
      refine ⟨fun c7 => ?_, fun c7 => ?_⟩
      · try simp only [Int32.lt_iff_toInt_lt, Int32.le_iff_toInt_le, ← Int32.toInt_inj, Int32.toInt_toInt64, ti_m14, ti_m13, ti_m12, ti_m11, ti_m10, ti_m9, ti_m6, ti_m5, ti_m4, ti_m3, ti_m2, ti_m1, ti_0, ti_1, ti_2, ti_3, ti_4, ti_5, ti_6, ti_7, ti_8, ti_9, ti_10, ti_11, ti_12, ti_19, ti_20, ti_21, ti_44, ti_45, ti_48, ti_57, ti_59, ti_60, ti_98, ti_99, ti_100, ti_101, ti_103, ti_108, ti_110, ti_114, ti_127] at c7
        subst hp
        exact ⟨hI15, hK16⟩
      · try simp only [Int32.lt_iff_toInt_lt, Int32.le_iff_toInt_le, ← Int32.toInt_inj, Int32.toInt_toInt64, ti_m14, ti_m13, ti_m12, ti_m11, ti_m10, ti_m9, ti_m6, ti_m5, ti_m4, ti_m3, ti_m2, ti_m1, ti_0, ti_1, ti_2, ti_3, ti_4, ti_5, ti_6, ti_7, ti_8, ti_9, ti_10, ti_11, ti_12, ti_19, ti_20, ti_21, ti_44, ti_45, ti_48, ti_57, ti_59, ti_60, ti_98, ti_99, ti_100, ti_101, ti_103, ti_108, ti_110, ti_114, ti_127] at c7
        have hi20 : vp_in x2 (LAY (a1 + 1)).2 := vp_of (by first | omega | ((try simp only [Int32.lt_iff_toInt_lt, Int32.le_iff_toInt_le, ← Int32.toInt_inj, Int32.toInt_toInt64, ti_m14, ti_m13, ti_m12, ti_m11, ti_m10, ti_m9, ti_m6, ti_m5, ti_m4, ti_m3, ti_m2, ti_m1, ti_0, ti_1, ti_2, ti_3, ti_4, ti_5, ti_6, ti_7, ti_8, ti_9, ti_10, ti_11, ti_12, ti_19, ti_20, ti_21, ti_44, ti_45, ti_48, ti_57, ti_59, ti_60, ti_98, ti_99, ti_100, ti_101, ti_103, ti_108, ti_110, ti_114, ti_127]); omega) | (split <;> omega)) (by first | omega | ((try simp only [Int32.lt_iff_toInt_lt, Int32.le_iff_toInt_le, ← Int32.toInt_inj, Int32.toInt_toInt64, ti_m14, ti_m13, ti_m12, ti_m11, ti_m10, ti_m9, ti_m6, ti_m5, ti_m4, ti_m3, ti_m2, ti_m1, ti_0, ti_1, ti_2, ti_3, ti_4, ti_5, ti_6, ti_7, ti_8, ti_9, ti_10, ti_11, ti_12, ti_19, ti_20, ti_21, ti_44, ti_45, ti_48, ti_57, ti_59, ti_60, ti_98, ti_99, ti_100, ti_101, ti_103, ti_108, ti_110, ti_114, ti_127]); omega) | (split <;> omega))
        refine ⟨hi20, ?_⟩
        have hz21 := vlt hi20
        refine ⟨fun c18 => ?_, fun c18 => ?_⟩
        · try simp only [Int32.lt_iff_toInt_lt, Int32.le_iff_toInt_le, ← Int32.toInt_inj, Int32.toInt_toInt64, ti_m14, ti_m13, ti_m12, ti_m11, ti_m10, ti_m9, ti_m6, ti_m5, ti_m4, ti_m3, ti_m2, ti_m1, ti_0, ti_1, ti_2, ti_3, ti_4, ti_5, ti_6, ti_7, ti_8, ti_9, ti_10, ti_11, ti_12, ti_19, ti_20, ti_21, ti_44, ti_45, ti_48, ti_57, ti_59, ti_60, ti_98, ti_99, ti_100, ti_101, ti_103, ti_108, ti_110, ti_114, ti_127] at c18
          subst hp
          exact ⟨hI15, hK16⟩
        · try simp only [Int32.lt_iff_toInt_lt, Int32.le_iff_toInt_le, ← Int32.toInt_inj, Int32.toInt_toInt64, ti_m14, ti_m13, ti_m12, ti_m11, ti_m10, ti_m9, ti_m6, ti_m5, ti_m4, ti_m3, ti_m2, ti_m1, ti_0, ti_1, ti_2, ti_3, ti_4, ti_5, ti_6, ti_7, ti_8, ti_9, ti_10, ti_11, ti_12, ti_19, ti_20, ti_21, ti_44, ti_45, ti_48, ti_57, ti_59, ti_60, ti_98, ti_99, ti_100, ti_101, ti_103, ti_108, ti_110, ti_114, ti_127] at c18
          have f22 : 0 ≤ (it18 55 3).toInt ∧ (it18 55 3).toInt ≤ 20 := i8_0 hI15
          refine ⟨fun c26 => ?_, fun c26 => ?_⟩
          · try simp only [Int32.lt_iff_toInt_lt, Int32.le_iff_toInt_le, ← Int32.toInt_inj, Int32.toInt_toInt64, ti_m14, ti_m13, ti_m12, ti_m11, ti_m10, ti_m9, ti_m6, ti_m5, ti_m4, ti_m3, ti_m2, ti_m1, ti_0, ti_1, ti_2, ti_3, ti_4, ti_5, ti_6, ti_7, ti_8, ti_9, ti_10, ti_11, ti_12, ti_19, ti_20, ti_21, ti_44, ti_45, ti_48, ti_57, ti_59, ti_60, ti_98, ti_99, ti_100, ti_101, ti_103, ti_108, ti_110, ti_114, ti_127] at c26
            subst hp
            exact ⟨hI15, hK16⟩
          · try simp only [Int32.lt_iff_toInt_lt, Int32.le_iff_toInt_le, ← Int32.toInt_inj, Int32.toInt_toInt64, ti_m14, ti_m13, ti_m12, ti_m11, ti_m10, ti_m9, ti_m6, ti_m5, ti_m4, ti_m3, ti_m2, ti_m1, ti_0, ti_1, ti_2, ti_3, ti_4, ti_5, ti_6, ti_7, ti_8, ti_9, ti_10, ti_11, ti_12, ti_19, ti_20, ti_21, ti_44, ti_45, ti_48, ti_57, ti_59, ti_60, ti_98, ti_99, ti_100, ti_101, ti_103, ti_108, ti_110, ti_114, ti_127] at c26
            have hi23 : vp_in (it18 (a1 + 1) x2.toNatClampNeg) 20 := vp_of (by first | omega | ((try simp only [Int32.lt_iff_toInt_lt, Int32.le_iff_toInt_le, ← Int32.toInt_inj, Int32.toInt_toInt64, ti_m14, ti_m13, ti_m12, ti_m11, ti_m10, ti_m9, ti_m6, ti_m5, ti_m4, ti_m3, ti_m2, ti_m1, ti_0, ti_1, ti_2, ti_3, ti_4, ti_5, ti_6, ti_7, ti_8, ti_9, ti_10, ti_11, ti_12, ti_19, ti_20, ti_21, ti_44, ti_45, ti_48, ti_57, ti_59, ti_60, ti_98, ti_99, ti_100, ti_101, ti_103, ti_108, ti_110, ti_114, ti_127]); omega) | (split <;> omega)) (by first | omega | ((try simp only [Int32.lt_iff_toInt_lt, Int32.le_iff_toInt_le, ← Int32.toInt_inj, Int32.toInt_toInt64, ti_m14, ti_m13, ti_m12, ti_m11, ti_m10, ti_m9, ti_m6, ti_m5, ti_m4, ti_m3, ti_m2, ti_m1, ti_0, ti_1, ti_2, ti_3, ti_4, ti_5, ti_6, ti_7, ti_8, ti_9, ti_10, ti_11, ti_12, ti_19, ti_20, ti_21, ti_44, ti_45, ti_48, ti_57, ti_59, ti_60, ti_98, ti_99, ti_100, ti_101, ti_103, ti_108, ti_110, ti_114, ti_127]); omega) | (split <;> omega))
            refine ⟨hi23, ?_⟩
            have hz24 := vlt hi23
            have hi25 : vp_in x2 (LAY (a1 + 2)).2 := vp_of (by first | omega | ((try simp only [Int32.lt_iff_toInt_lt, Int32.le_iff_toInt_le, ← Int32.toInt_inj, Int32.toInt_toInt64, ti_m14, ti_m13, ti_m12, ti_m11, ti_m10, ti_m9, ti_m6, ti_m5, ti_m4, ti_m3, ti_m2, ti_m1, ti_0, ti_1, ti_2, ti_3, ti_4, ti_5, ti_6, ti_7, ti_8, ti_9, ti_10, ti_11, ti_12, ti_19, ti_20, ti_21, ti_44, ti_45, ti_48, ti_57, ti_59, ti_60, ti_98, ti_99, ti_100, ti_101, ti_103, ti_108, ti_110, ti_114, ti_127]); omega) | (split <;> omega)) (by first | omega | ((try simp only [Int32.lt_iff_toInt_lt, Int32.le_iff_toInt_le, ← Int32.toInt_inj, Int32.toInt_toInt64, ti_m14, ti_m13, ti_m12, ti_m11, ti_m10, ti_m9, ti_m6, ti_m5, ti_m4, ti_m3, ti_m2, ti_m1, ti_0, ti_1, ti_2, ti_3, ti_4, ti_5, ti_6, ti_7, ti_8, ti_9, ti_10, ti_11, ti_12, ti_19, ti_20, ti_21, ti_44, ti_45, ti_48, ti_57, ti_59, ti_60, ti_98, ti_99, ti_100, ti_101, ti_103, ti_108, ti_110, ti_114, ti_127]); omega) | (split <;> omega))
            refine ⟨hi25, ?_⟩
            have hz26 := vlt hi25
            refine ⟨fun c41 => ?_, fun c41 => ?_⟩
            · try simp only [Int32.lt_iff_toInt_lt, Int32.le_iff_toInt_le, ← Int32.toInt_inj, Int32.toInt_toInt64, ti_m14, ti_m13, ti_m12, ti_m11, ti_m10, ti_m9, ti_m6, ti_m5, ti_m4, ti_m3, ti_m2, ti_m1, ti_0, ti_1, ti_2, ti_3, ti_4, ti_5, ti_6, ti_7, ti_8, ti_9, ti_10, ti_11, ti_12, ti_19, ti_20, ti_21, ti_44, ti_45, ti_48, ti_57, ti_59, ti_60, ti_98, ti_99, ti_100, ti_101, ti_103, ti_108, ti_110, ti_114, ti_127] at c41
              try have f27 : ((x2 + 1) : Int32).toInt = (x2).toInt + 1 := ad32 (a := (x2).toInt) (b := 1) (rfl) (ti_1) (by omega) (by omega)
              exact ih2 ((x2 + 1)) _ _ hI15 hK16 (by first | omega | assumption) (by omega)
            · try simp only [Int32.lt_iff_toInt_lt, Int32.le_iff_toInt_le, ← Int32.toInt_inj, Int32.toInt_toInt64, ti_m14, ti_m13, ti_m12, ti_m11, ti_m10, ti_m9, ti_m6, ti_m5, ti_m4, ti_m3, ti_m2, ti_m1, ti_0, ti_1, ti_2, ti_3, ti_4, ti_5, ti_6, ti_7, ti_8, ti_9, ti_10, ti_11, ti_12, ti_19, ti_20, ti_21, ti_44, ti_45, ti_48, ti_57, ti_59, ti_60, ti_98, ti_99, ti_100, ti_101, ti_103, ti_108, ti_110, ti_114, ti_127] at c41
              subst hp
              exact ⟨hI15, hK16⟩
  have t28 := ti_0
  exact ⟨_, lp2 ((9 - ((0 : Int32)).toInt).toNat + 1) ((0 : Int32)) _ _ hI hKr (by first | omega | assumption) (Nat.lt_succ_self _)⟩
