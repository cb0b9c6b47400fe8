/-! the reference is safe: strikes -/
theorem s_X9_minds {lg0 : LGt} {it0 : ITt} (hI : I9 lg0 it0) : w_X9_minds (fun (lg' : LGt) (it' : ITt) => (I9 lg' it' ∧ Kd (fun j => j = 501 ∨ j = 502 ∨ j = 503 ∨ j = 504 ∨ j = 505) (fun k => k = 30 ∨ k = 31 ∨ k = 32) lg0 it0 lg' it') ∧ T9 lg' it') lg0 it0 := by
  generalize hp : (fun (lg' : LGt) (it' : ITt) => (I9 lg' it' ∧ Kd (fun j => j = 501 ∨ j = 502 ∨ j = 503 ∨ j = 504 ∨ j = 505) (fun k => k = 30 ∨ k = 31 ∨ k = 32) lg0 it0 lg' it') ∧ T9 lg' it') = Pz
  unfold w_X9_minds
  have lp : ∀ (n i : Nat) (lg : LGt) (it : ITt), I9 lg it → Kd (fun j => j = 501 ∨ j = 502 ∨ j = 503 ∨ j = 504 ∨ j = 505) (fun k => k = 30 ∨ k = 31 ∨ k = 32) lg0 it0 lg it → (∀ k : Nat, k < i → lg 503 k = lg0 492 k ∧ lg 505 k = lg0 494 k ∧ it 501 k = it0 490 k) → i + n = 6 → w_X9_minds_b2 Pz (n + 1) (nI i) lg it := by
    intro n
    induction n with
    | zero =>
      intro i lg it hJ hK h hi
      have hi : i = 6 := by omega
      subst hi
      unfold w_X9_minds_b2
      refine ⟨fun _ => ?_, fun c => absurd (by decide) c⟩
      have e0 : it 489 0 = it0 489 0 := (hK.2 0 (by first | decide | (dsimp only; decide) | omega | (dsimp only; omega))).2
      have hT : T9 lg it := by
        intro k h1 h2
        obtain ⟨q1, q2, q3⟩ := h k h1
        rw [q1, q2, q3]
        rw [e0] at h2
        exact hI.2.2.1 k h1 h2
      intro it1 m1 it2 m2 it3 m3
      subst hp
      have J1 : I9 lg it1 := by rw [m1]; exact i9_u hJ (ok9_n rfl) (by decide) (fun _ => by decide)
      have J2 : I9 lg it2 := by rw [m2]; exact i9_u J1 (ok9_n rfl) (by decide) (fun _ => by decide)
      have J3 : I9 lg it3 := by rw [m3]; exact i9_u J2 (ok9_n rfl) (by decide) (fun _ => by decide)
      refine ⟨⟨J3, ?_⟩, ?_⟩
      · rw [m3, m2, m1]; exact kd_uf (by first | decide | (dsimp only; decide) | omega | (dsimp only; omega)) (kd_uf (by first | decide | (dsimp only; decide) | omega | (dsimp only; omega)) (kd_uf (by first | decide | (dsimp only; decide) | omega | (dsimp only; omega)) hK))
      · rw [m3, m2, m1]
        exact T9_c hT rfl rfl ((u2_row (by decide)).trans ((u2_row (by decide)).trans (u2_row (by decide)))) ((u2_ne (by decide)).trans ((u2_ne (by decide)).trans (u2_ne (by decide))))
    | succ n ih =>
      intro i lg it hJ hK h hi
      unfold w_X9_minds_b2
      have hv : vp_in (nI i) 6 := nI_in (by omega) (by omega)
      have c6 : ¬ nI 6 ≤ nI i := nI_ge (by omega) (by omega)
      refine ⟨fun c => absurd c c6, fun _ => ?_⟩
      have ec : (nI i).toNatClampNeg = i := nI_clamp (by omega)
      rw [ec]
      have e492 : lg 492 = lg0 492 := (hK.1 492 (by decide) (by first | decide | (dsimp only; decide) | omega | (dsimp only; omega))).1
      have e494 : lg 494 = lg0 494 := (hK.1 494 (by decide) (by first | decide | (dsimp only; decide) | omega | (dsimp only; omega))).1
      have e490 : it 490 = it0 490 := (hK.1 490 (by decide) (by first | decide | (dsimp only; decide) | omega | (dsimp only; omega))).2
      refine ⟨hv, hv, fun it11 m11 => ⟨hv, hv, fun lg15 m15 => ⟨hv, hv, fun lg19 m19 => ⟨hv, hv, fun lg23 m23 => ⟨hv, hv, fun lg27 m27 => ?_⟩⟩⟩⟩⟩
      have J : I9 lg27 it11 := by rw [m27, m23, m19, m15, m11]; exact i9_l (i9_l (i9_l (i9_l (i9_u hJ (ok9_n rfl) (by decide) (fun q => absurd q (by decide))) (by decide) (by decide) (by decide)) (by decide) (by decide) (by decide)) (by decide) (by decide) (by decide)) (by decide) (by decide) (by decide)
      have K : Kd (fun j => j = 501 ∨ j = 502 ∨ j = 503 ∨ j = 504 ∨ j = 505) (fun k => k = 30 ∨ k = 31 ∨ k = 32) lg0 it0 lg27 it11 := by rw [m27, m23, m19, m15, m11]; exact kd_lr (by decide) (by first | decide | (dsimp only; decide) | omega | (dsimp only; omega)) (kd_lr (by decide) (by first | decide | (dsimp only; decide) | omega | (dsimp only; omega)) (kd_lr (by decide) (by first | decide | (dsimp only; decide) | omega | (dsimp only; omega)) (kd_lr (by decide) (by first | decide | (dsimp only; decide) | omega | (dsimp only; omega)) (kd_ur (by decide) (by first | decide | (dsimp only; decide) | omega | (dsimp only; omega)) hK))))
      have A : lg27 503 = u2 lg15 503 i (lg15 492 i) 503 := by rw [m27, u2_row (by decide), m23, u2_row (by decide), m19]
      have A2 : lg15 492 = lg0 492 := by rw [m15, u2_row (by decide)]; exact e492
      have A3 : lg15 503 = lg 503 := by rw [m15, u2_row (by decide)]
      have B : lg27 505 = u2 lg23 505 i (lg23 494 i) 505 := by rw [m27]
      have B2 : lg23 494 = lg0 494 := by rw [m23, u2_row (by decide), m19, u2_row (by decide), m15, u2_row (by decide)]; exact e494
      have B3 : lg23 505 = lg 505 := by rw [m23, u2_row (by decide), m19, u2_row (by decide), m15, u2_row (by decide)]
      have C : it11 501 = u2 it 501 i (it 490 i) 501 := by rw [m11]
      have hs := ih (i + 1) lg27 it11 J K (fun k hk => by
        rw [A, B, C]
        by_cases hki : k = i
        · rw [hki, u2_eq, u2_eq, u2_eq, A2, B2, e490]; exact ⟨rfl, rfl, rfl⟩
        · rw [u2_ne hki, u2_ne hki, u2_ne hki, A3, B3]; exact h k (by omega)) (by omega)
      rw [nI_succ] at hs
      exact hs
  exact ⟨_, lp 6 0 lg0 it0 hI kd_r (fun k hk => absurd hk (Nat.not_lt_zero _)) rfl⟩
theorem s_X9_becomes (a1 : Int32) (a2 a3 : Int64) {lg0 : LGt} {it0 : ITt} (hI : I9 lg0 it0) (hi : 0 ≤ a1.toInt ∧ a1.toInt ≤ 5) (hb : ¬ a3 = 0) : w_X9_becomes a1 a2 a3 (fun (lg' : LGt) (it' : ITt) => (I9 lg' it' ∧ Kd (fun j => j = 504 ∨ j = 505) (fun k => False) lg0 it0 lg' it') ∧ (T9 lg0 it0 → T9 lg' it')) lg0 it0 := by
  unfold w_X9_becomes
  have hv : vp_in a1 6 := vp_of (by omega) (by omega)
  refine ⟨hv, fun lg1 m1 => ⟨hv, fun lg2 m2 => ?_⟩⟩
  rw [m2, m1]
  exact ⟨⟨i9_l (i9_l hI (by decide) (by decide) (by decide)) (by decide) (by decide) (by decide), kd_lr (by decide) (by first | decide | (dsimp only; decide) | omega | (dsimp only; omega)) (kd_lr (by decide) (by first | decide | (dsimp only; decide) | omega | (dsimp only; omega)) kd_r)⟩, fun hT => T9_w (Or.inr rfl) (T9_c hT (u2_row (by decide)) (u2_row (by decide)) rfl rfl) hb⟩
theorem s_X9_offers (a1 : Int32) {lg0 : LGt} {it0 : ITt} (hI : I9 lg0 it0) (hd : ¬ lg0 489 19 = 0) (hw : W9 lg0 it0) (hv : ((a1.toInt = 0 ∨ a1.toInt = 9) ∧ 1 ≤ (it0 489 0).toInt) ∨ (1 ≤ a1.toInt ∧ a1.toInt < (it0 489 0).toInt)) : w_X9_offers a1 (fun (lg' : LGt) (it' : ITt) => (I9 lg' it' ∧ Kd (fun j => False) (fun k => k = 18 ∨ k = 19 ∨ k = 20 ∨ k = 33 ∨ k = 34 ∨ k = 35) lg0 it0 lg' it') ∧ W9 lg' it') lg0 it0 := by
  generalize hp : (fun (lg' : LGt) (it' : ITt) => (I9 lg' it' ∧ Kd (fun j => False) (fun k => k = 18 ∨ k = 19 ∨ k = 20 ∨ k = 33 ∨ k = 34 ∨ k = 35) lg0 it0 lg' it') ∧ W9 lg' it') = Pz
  have fin : ∀ (x2 : Int64) (lg : LGt) (it : ITt), I9 lg it → Kd (fun j => False) (fun k => k = 18 ∨ k = 19 ∨ k = 20 ∨ k = 33 ∨ k = 34 ∨ k = 35) lg0 it0 lg it → it 489 0 = it0 489 0 → w_X9_offers_b37 a1 Pz x2 (lg0 489 19) lg it := by
    intro x2 lg it hJ hK h0
    unfold w_X9_offers_b37
    intro it1 m1 lg2 m2 lg3 m3
    subst hp
    have J1 : I9 lg it1 := by rw [m1]; exact i9_u hJ (ok9_n rfl) (by decide) (fun _ => by decide)
    have J3 : I9 lg3 it1 := by rw [m3, m2]; exact i9_l (i9_l J1 (by decide) (by decide) (by decide)) (by decide) (by decide) (by decide)
    have e33 : it1 489 33 = a1 := by rw [m1, u2_eq]
    have e0 : it1 489 0 = it0 489 0 := by rw [m1, u2_ne (by decide)]; exact h0
    have e35 : lg3 489 35 = lg0 489 19 := by rw [m3, u2_eq]
    refine ⟨⟨J3, ?_⟩, ?_⟩
    · rw [m3, m2, m1]; exact kd_lf (by first | decide | (dsimp only; decide) | omega | (dsimp only; omega)) (kd_lf (by first | decide | (dsimp only; decide) | omega | (dsimp only; omega)) (kd_uf (by first | decide | (dsimp only; decide) | omega | (dsimp only; omega)) hK))
    · unfold W9
      rw [e33, e0, e35]
      exact ⟨fun _ => hd, Or.inr hv⟩
  unfold w_X9_offers
  refine ⟨fun _ => fin _ _ _ hI kd_r rfl, fun c => ?_⟩
  rw [Int32.lt_iff_toInt_lt, ti_0] at c
  have hbb := hw.1 (by omega)
  refine ⟨i9_o hI, hd, hbb, ?_⟩
  intro q3 m3 lg4 m4 it5 m5
  have J : I9 lg4 it5 := by rw [m4, m5]; exact i9_g hI (by rw [m3]; exact gL_o (i9_o hI))
  have K : Kd (fun j => False) (fun k => k = 18 ∨ k = 19 ∨ k = 20 ∨ k = 33 ∨ k = 34 ∨ k = 35) lg0 it0 lg4 it5 := by rw [m4, m5]; exact kd_g (by first | decide | (dsimp only; decide) | omega | (dsimp only; omega)) (by first | decide | (dsimp only; decide) | omega | (dsimp only; omega)) (by first | decide | (dsimp only; decide) | omega | (dsimp only; omega)) kd_r
  refine ⟨fun _ => fin _ _ _ J K (by rw [m5]; exact setO_c (by decide)), fun _ => ?_⟩
  subst hp
  refine ⟨⟨J, K⟩, W9_c hw ?_ ?_ ?_⟩
  · rw [m4]; exact setU_c (by decide) (by decide)
  · rw [m5]; exact setO_c (by decide)
  · rw [m5]; exact setO_c (by decide)
set_option maxRecDepth 100000 in
theorem s_X9_next {lg0 : LGt} {it0 : ITt} (hI : I9 lg0 it0) (hT : T9 lg0 it0) : w_X9_next  (fun (v : Int32) (lg' : LGt) (it' : ITt) => (I9 lg' it' ∧ Kd (fun j => False) (fun k => k = 18 ∨ k = 19 ∨ k = 20 ∨ k = 33 ∨ k = 34 ∨ k = 35) lg0 it0 lg' it') ∧ (v = it' 489 33 ∧ W9 lg' it'))  lg0 it0 := by
  have hKr : Kd (fun j => False) (fun k => k = 18 ∨ k = 19 ∨ k = 20 ∨ k = 33 ∨ k = 34 ∨ k = 35) lg0 it0 lg0 it0 := kd_r
  generalize hp : (fun (v : Int32) (lg' : LGt) (it' : ITt) => (I9 lg' it' ∧ Kd (fun j => False) (fun k => k = 18 ∨ k = 19 ∨ k = 20 ∨ k = 33 ∨ k = 34 ∨ k = 35) lg0 it0 lg' it') ∧ (v = it' 489 33 ∧ W9 lg' it')) = Pz
  unfold w_X9_next
  have t0 := ti_0
  have t9 := ti_9
  have tm1 := ti_m1
  intro it146 em147
  have hI148 : I9 lg0 it146 := by rw [em147]; exact i9_u hI (ok9_n rfl) (by decide) (fun _ => by decide)
  have hK149 : Kd (fun j => False) (fun k => k = 18 ∨ k = 19 ∨ k = 20 ∨ k = 33 ∨ k = 34 ∨ k = 35) lg0 it0 lg0 it146 := by rw [em147]; exact kd_uf (by first | decide | (dsimp only; decide) | omega | (dsimp only; omega)) hKr
  have e150 : (it146 489 0).toInt = (it0 489 0).toInt := by rw [em147]; exact congrArg Int32.toInt (u2_ne (by decide))
  have PT151 : T9 lg0 it146 := T9_c hT rfl rfl (by rw [em147]; exact u2_row (by decide)) (by rw [em147]; exact u2_ne (by decide))
  have PW152 : W9 lg0 it146 := W9_0 (by rw [em147]; exact u2_eq)
  have f153 : 0 ≤ (it146 489 0).toInt ∧ (it146 489 0).toInt ≤ 6 := i9_f hI148 (j := 489) (k := 0) rfl
  refine ⟨fun c9 => ?_, fun c9 => ?_⟩
  · try simp only [Int32.lt_iff_toInt_lt, Int32.le_iff_toInt_le, ← Int32.toInt_inj, Int32.toInt_toInt64, ti_m14, ti_m13, ti_m12, ti_m11, ti_m10, ti_m9, ti_m6, ti_m5, ti_m4, ti_m3, ti_m2, ti_m1, ti_0, ti_1, ti_2, ti_3, ti_4, ti_5, ti_6, ti_7, ti_8, ti_9, ti_10, ti_11, ti_12, ti_19, ti_20, ti_21, ti_44, ti_45, ti_48, ti_57, ti_59, ti_60, ti_98, ti_99, ti_100, ti_101, ti_103, ti_108, ti_110, ti_114, ti_127] at c9
    have lp79 : ∀ (n : Nat) (x1 : Int32) (lg : LGt) (it : ITt), I9 lg it → Kd (fun j => False) (fun k => k = 18 ∨ k = 19 ∨ k = 20 ∨ k = 33 ∨ k = 34 ∨ k = 35) lg0 it0 lg it → ((0 ≤ (x1).toInt) ∧ (T9 lg it) ∧ (W9 lg it) ∧ ((it 489 0).toInt = (it0 489 0).toInt) ∧ ((x1).toInt ≤ 6)) → (7 - (x1).toInt).toNat < n → w_X9_next_b79  Pz  n x1 lg it := by
      intro n79
      induction n79 with
      | zero => intro x1 lg it _ _ _ hn; exact absurd hn (Nat.not_lt_zero _)
      | succ n79 ih79 =>
        intro x1 lg156 it157 hI154 hK155 hv hn
        unfold w_X9_next_b79
        obtain ⟨hv79_0, hv79_1, hv79_2, hv79_3, hv79_4⟩ := hv
        try have f158 : ((x1 + 1) : Int32).toInt = (x1).toInt + 1 := ad32 (a := (x1).toInt) (b := 1) (rfl) (ti_1) (by omega) (by omega)
        have f159 : 0 ≤ (it157 489 0).toInt ∧ (it157 489 0).toInt ≤ 6 := i9_f hI154 (j := 489) (k := 0) rfl
        refine ⟨fun c86 => ?_, fun c86 => ?_⟩
        · try simp only [Int32.lt_iff_toInt_lt, Int32.le_iff_toInt_le, ← Int32.toInt_inj, Int32.toInt_toInt64, ti_m14, ti_m13, ti_m12, ti_m11, ti_m10, ti_m9, ti_m6, ti_m5, ti_m4, ti_m3, ti_m2, ti_m1, ti_0, ti_1, ti_2, ti_3, ti_4, ti_5, ti_6, ti_7, ti_8, ti_9, ti_10, ti_11, ti_12, ti_19, ti_20, ti_21, ti_44, ti_45, ti_48, ti_57, ti_59, ti_60, ti_98, ti_99, ti_100, ti_101, ti_103, ti_108, ti_110, ti_114, ti_127] at c86
          refine ⟨fun c208 => ?_, fun c208 => ?_⟩
          · try simp only [Int32.lt_iff_toInt_lt, Int32.le_iff_toInt_le, ← Int32.toInt_inj, Int32.toInt_toInt64, ti_m14, ti_m13, ti_m12, ti_m11, ti_m10, ti_m9, ti_m6, ti_m5, ti_m4, ti_m3, ti_m2, ti_m1, ti_0, ti_1, ti_2, ti_3, ti_4, ti_5, ti_6, ti_7, ti_8, ti_9, ti_10, ti_11, ti_12, ti_19, ti_20, ti_21, ti_44, ti_45, ti_48, ti_57, ti_59, ti_60, ti_98, ti_99, ti_100, ti_101, ti_103, ti_108, ti_110, ti_114, ti_127] at c208
            subst hp
            exact ⟨⟨hI154, hK155⟩, ⟨rfl, hv79_2⟩⟩
          · try simp only [Int32.lt_iff_toInt_lt, Int32.le_iff_toInt_le, ← Int32.toInt_inj, Int32.toInt_toInt64, ti_m14, ti_m13, ti_m12, ti_m11, ti_m10, ti_m9, ti_m6, ti_m5, ti_m4, ti_m3, ti_m2, ti_m1, ti_0, ti_1, ti_2, ti_3, ti_4, ti_5, ti_6, ti_7, ti_8, ti_9, ti_10, ti_11, ti_12, ti_19, ti_20, ti_21, ti_44, ti_45, ti_48, ti_57, ti_59, ti_60, ti_98, ti_99, ti_100, ti_101, ti_103, ti_108, ti_110, ti_114, ti_127] at c208
            refine ⟨fun c215 => ?_, fun c215 => ?_⟩
            · try simp only [Int32.lt_iff_toInt_lt, Int32.le_iff_toInt_le, ← Int32.toInt_inj, Int32.toInt_toInt64, ti_m14, ti_m13, ti_m12, ti_m11, ti_m10, ti_m9, ti_m6, ti_m5, ti_m4, ti_m3, ti_m2, ti_m1, ti_0, ti_1, ti_2, ti_3, ti_4, ti_5, ti_6, ti_7, ti_8, ti_9, ti_10, ti_11, ti_12, ti_19, ti_20, ti_21, ti_44, ti_45, ti_48, ti_57, ti_59, ti_60, ti_98, ti_99, ti_100, ti_101, ti_103, ti_108, ti_110, ti_114, ti_127] at c215
              subst hp
              exact ⟨⟨hI154, hK155⟩, ⟨rfl, hv79_2⟩⟩
            · try simp only [Int32.lt_iff_toInt_lt, Int32.le_iff_toInt_le, ← Int32.toInt_inj, Int32.toInt_toInt64, ti_m14, ti_m13, ti_m12, ti_m11, ti_m10, ti_m9, ti_m6, ti_m5, ti_m4, ti_m3, ti_m2, ti_m1, ti_0, ti_1, ti_2, ti_3, ti_4, ti_5, ti_6, ti_7, ti_8, ti_9, ti_10, ti_11, ti_12, ti_19, ti_20, ti_21, ti_44, ti_45, ti_48, ti_57, ti_59, ti_60, ti_98, ti_99, ti_100, ti_101, ti_103, ti_108, ti_110, ti_114, ti_127] at c215
              try have f160 : (((it157 489 0) - 1) : Int32).toInt = ((it157 489 0)).toInt - 1 := sb32 (a := ((it157 489 0)).toInt) (b := 1) (rfl) (ti_1) (by omega) (by omega)
              have hi161 : vp_in ((it157 489 0) - 1) 6 := vp_of (by first | omega | ((try simp only [Int32.lt_iff_toInt_lt, Int32.le_iff_toInt_le, ← Int32.toInt_inj, Int32.toInt_toInt64, ti_m14, ti_m13, ti_m12, ti_m11, ti_m10, ti_m9, ti_m6, ti_m5, ti_m4, ti_m3, ti_m2, ti_m1, ti_0, ti_1, ti_2, ti_3, ti_4, ti_5, ti_6, ti_7, ti_8, ti_9, ti_10, ti_11, ti_12, ti_19, ti_20, ti_21, ti_44, ti_45, ti_48, ti_57, ti_59, ti_60, ti_98, ti_99, ti_100, ti_101, ti_103, ti_108, ti_110, ti_114, ti_127]); omega) | (split <;> omega)) (by first | omega | ((try simp only [Int32.lt_iff_toInt_lt, Int32.le_iff_toInt_le, ← Int32.toInt_inj, Int32.toInt_toInt64, ti_m14, ti_m13, ti_m12, ti_m11, ti_m10, ti_m9, ti_m6, ti_m5, ti_m4, ti_m3, ti_m2, ti_m1, ti_0, ti_1, ti_2, ti_3, ti_4, ti_5, ti_6, ti_7, ti_8, ti_9, ti_10, ti_11, ti_12, ti_19, ti_20, ti_21, ti_44, ti_45, ti_48, ti_57, ti_59, ti_60, ti_98, ti_99, ti_100, ti_101, ti_103, ti_108, ti_110, ti_114, ti_127]); omega) | (split <;> omega))
              refine ⟨hi161, ?_⟩
              have hz162 := vlt hi161
              refine ⟨fun c231 => ?_, fun c231 => ?_⟩
              · try simp only [Int32.lt_iff_toInt_lt, Int32.le_iff_toInt_le, ← Int32.toInt_inj, Int32.toInt_toInt64, ti_m14, ti_m13, ti_m12, ti_m11, ti_m10, ti_m9, ti_m6, ti_m5, ti_m4, ti_m3, ti_m2, ti_m1, ti_0, ti_1, ti_2, ti_3, ti_4, ti_5, ti_6, ti_7, ti_8, ti_9, ti_10, ti_11, ti_12, ti_19, ti_20, ti_21, ti_44, ti_45, ti_48, ti_57, ti_59, ti_60, ti_98, ti_99, ti_100, ti_101, ti_103, ti_108, ti_110, ti_114, ti_127] at c231
                subst hp
                exact ⟨⟨hI154, hK155⟩, ⟨rfl, hv79_2⟩⟩
              · try simp only [Int32.lt_iff_toInt_lt, Int32.le_iff_toInt_le, ← Int32.toInt_inj, Int32.toInt_toInt64, ti_m14, ti_m13, ti_m12, ti_m11, ti_m10, ti_m9, ti_m6, ti_m5, ti_m4, ti_m3, ti_m2, ti_m1, ti_0, ti_1, ti_2, ti_3, ti_4, ti_5, ti_6, ti_7, ti_8, ti_9, ti_10, ti_11, ti_12, ti_19, ti_20, ti_21, ti_44, ti_45, ti_48, ti_57, ti_59, ti_60, ti_98, ti_99, ti_100, ti_101, ti_103, ti_108, ti_110, ti_114, ti_127] at c231
                try have f163 : (((it157 489 0) - 1) : Int32).toInt = ((it157 489 0)).toInt - 1 := sb32 (a := ((it157 489 0)).toInt) (b := 1) (rfl) (ti_1) (by omega) (by omega)
                have hi164 : vp_in ((it157 489 0) - 1) 6 := vp_of (by first | omega | ((try simp only [Int32.lt_iff_toInt_lt, Int32.le_iff_toInt_le, ← Int32.toInt_inj, Int32.toInt_toInt64, ti_m14, ti_m13, ti_m12, ti_m11, ti_m10, ti_m9, ti_m6, ti_m5, ti_m4, ti_m3, ti_m2, ti_m1, ti_0, ti_1, ti_2, ti_3, ti_4, ti_5, ti_6, ti_7, ti_8, ti_9, ti_10, ti_11, ti_12, ti_19, ti_20, ti_21, ti_44, ti_45, ti_48, ti_57, ti_59, ti_60, ti_98, ti_99, ti_100, ti_101, ti_103, ti_108, ti_110, ti_114, ti_127]); omega) | (split <;> omega)) (by first | omega | ((try simp only [Int32.lt_iff_toInt_lt, Int32.le_iff_toInt_le, ← Int32.toInt_inj, Int32.toInt_toInt64, ti_m14, ti_m13, ti_m12, ti_m11, ti_m10, ti_m9, ti_m6, ti_m5, ti_m4, ti_m3, ti_m2, ti_m1, ti_0, ti_1, ti_2, ti_3, ti_4, ti_5, ti_6, ti_7, ti_8, ti_9, ti_10, ti_11, ti_12, ti_19, ti_20, ti_21, ti_44, ti_45, ti_48, ti_57, ti_59, ti_60, ti_98, ti_99, ti_100, ti_101, ti_103, ti_108, ti_110, ti_114, ti_127]); omega) | (split <;> omega))
                refine ⟨hi164, ?_⟩
                have hz165 := vlt hi164
                try have f166 : (((it157 489 0) - 1) : Int32).toInt = ((it157 489 0)).toInt - 1 := sb32 (a := ((it157 489 0)).toInt) (b := 1) (rfl) (ti_1) (by omega) (by omega)
                have hi167 : vp_in ((it157 489 0) - 1) 6 := vp_of (by first | omega | ((try simp only [Int32.lt_iff_toInt_lt, Int32.le_iff_toInt_le, ← Int32.toInt_inj, Int32.toInt_toInt64, ti_m14, ti_m13, ti_m12, ti_m11, ti_m10, ti_m9, ti_m6, ti_m5, ti_m4, ti_m3, ti_m2, ti_m1, ti_0, ti_1, ti_2, ti_3, ti_4, ti_5, ti_6, ti_7, ti_8, ti_9, ti_10, ti_11, ti_12, ti_19, ti_20, ti_21, ti_44, ti_45, ti_48, ti_57, ti_59, ti_60, ti_98, ti_99, ti_100, ti_101, ti_103, ti_108, ti_110, ti_114, ti_127]); omega) | (split <;> omega)) (by first | omega | ((try simp only [Int32.lt_iff_toInt_lt, Int32.le_iff_toInt_le, ← Int32.toInt_inj, Int32.toInt_toInt64, ti_m14, ti_m13, ti_m12, ti_m11, ti_m10, ti_m9, ti_m6, ti_m5, ti_m4, ti_m3, ti_m2, ti_m1, ti_0, ti_1, ti_2, ti_3, ti_4, ti_5, ti_6, ti_7, ti_8, ti_9, ti_10, ti_11, ti_12, ti_19, ti_20, ti_21, ti_44, ti_45, ti_48, ti_57, ti_59, ti_60, ti_98, ti_99, ti_100, ti_101, ti_103, ti_108, ti_110, ti_114, ti_127]); omega) | (split <;> omega))
                refine ⟨hi167, ?_⟩
                have hz168 := vlt hi167
                have hc172 : o01 it157 := i9_o hI154
                refine ⟨hc172, ?_⟩
                have hc173 : ¬ (1 : Int64) = 0 := by decide
                refine ⟨hc173, ?_⟩
                have hc174 : ¬ (lg156 503 ((it157 489 0) - 1).toNatClampNeg) = 0 := (hv79_1 (((it157 489 0) - 1)).toNatClampNeg (by have z1 := cl32 (i := ((it157 489 0) - 1)) (by omega); omega) (by have z1 := cl32 (i := ((it157 489 0) - 1)) (by omega); omega)).1.1
                refine ⟨hc174, ?_⟩
                intro q169 em_q169 lg170 em_lg170 it171 em_it171
                have hI175 : I9 lg170 it171 := by rw [em_lg170, em_it171]; exact i9_g hI154 (by rw [em_q169]; exact gL_o (i9_o hI154))
                have hK176 : Kd (fun j => False) (fun k => k = 18 ∨ k = 19 ∨ k = 20 ∨ k = 33 ∨ k = 34 ∨ k = 35) lg0 it0 lg170 it171 := by rw [em_lg170, em_it171]; exact kd_g (by first | decide | (dsimp only; decide) | omega | (dsimp only; omega)) (by first | decide | (dsimp only; decide) | omega | (dsimp only; omega)) (by first | decide | (dsimp only; decide) | omega | (dsimp only; omega)) hK155
                have z19_lg170 : ¬ lg170 489 19 = 0 := by rw [em_lg170, setU_19, em_q169]; exact gL_d hc173 hc174
                have e177 : (it171 489 0).toInt = (it157 489 0).toInt := by rw [em_it171]; exact congrArg Int32.toInt (setO_c (by decide))
                have e178 : (it171 489 32).toInt = (it157 489 32).toInt := by rw [em_it171]; exact congrArg Int32.toInt (setO_c (by decide))
                have PT179 : T9 lg170 it171 := T9_c hv79_1 (by rw [em_lg170]; exact setU_row (by decide)) (by rw [em_lg170]; exact setU_row (by decide)) (by rw [em_it171]; exact setO_row (by decide)) (by rw [em_it171]; exact setO_c (by decide))
                have PW180 : W9 lg170 it171 := W9_c hv79_2 (by rw [em_lg170]; exact setU_c (by decide) (by decide)) (by rw [em_it171]; exact setO_c (by decide)) (by rw [em_it171]; exact setO_c (by decide))
                have f181 : 0 ≤ (it171 489 0).toInt ∧ (it171 489 0).toInt ≤ 6 := i9_f hI175 (j := 489) (k := 0) rfl
                try have f182 : (((it171 489 0) - 1) : Int32).toInt = ((it171 489 0)).toInt - 1 := sb32 (a := ((it171 489 0)).toInt) (b := 1) (rfl) (ti_1) (by omega) (by omega)
                have hi183 : vp_in ((it171 489 0) - 1) 6 := vp_of (by first | omega | ((try simp only [Int32.lt_iff_toInt_lt, Int32.le_iff_toInt_le, ← Int32.toInt_inj, Int32.toInt_toInt64, ti_m14, ti_m13, ti_m12, ti_m11, ti_m10, ti_m9, ti_m6, ti_m5, ti_m4, ti_m3, ti_m2, ti_m1, ti_0, ti_1, ti_2, ti_3, ti_4, ti_5, ti_6, ti_7, ti_8, ti_9, ti_10, ti_11, ti_12, ti_19, ti_20, ti_21, ti_44, ti_45, ti_48, ti_57, ti_59, ti_60, ti_98, ti_99, ti_100, ti_101, ti_103, ti_108, ti_110, ti_114, ti_127]); omega) | (split <;> omega)) (by first | omega | ((try simp only [Int32.lt_iff_toInt_lt, Int32.le_iff_toInt_le, ← Int32.toInt_inj, Int32.toInt_toInt64, ti_m14, ti_m13, ti_m12, ti_m11, ti_m10, ti_m9, ti_m6, ti_m5, ti_m4, ti_m3, ti_m2, ti_m1, ti_0, ti_1, ti_2, ti_3, ti_4, ti_5, ti_6, ti_7, ti_8, ti_9, ti_10, ti_11, ti_12, ti_19, ti_20, ti_21, ti_44, ti_45, ti_48, ti_57, ti_59, ti_60, ti_98, ti_99, ti_100, ti_101, ti_103, ti_108, ti_110, ti_114, ti_127]); omega) | (split <;> omega))
                refine ⟨hi183, ?_⟩
                have hz184 := vlt hi183
                try have f185 : (((it171 489 0) - 1) : Int32).toInt = ((it171 489 0)).toInt - 1 := sb32 (a := ((it171 489 0)).toInt) (b := 1) (rfl) (ti_1) (by omega) (by omega)
                have hi186 : vp_in ((it171 489 0) - 1) 6 := vp_of (by first | omega | ((try simp only [Int32.lt_iff_toInt_lt, Int32.le_iff_toInt_le, ← Int32.toInt_inj, Int32.toInt_toInt64, ti_m14, ti_m13, ti_m12, ti_m11, ti_m10, ti_m9, ti_m6, ti_m5, ti_m4, ti_m3, ti_m2, ti_m1, ti_0, ti_1, ti_2, ti_3, ti_4, ti_5, ti_6, ti_7, ti_8, ti_9, ti_10, ti_11, ti_12, ti_19, ti_20, ti_21, ti_44, ti_45, ti_48, ti_57, ti_59, ti_60, ti_98, ti_99, ti_100, ti_101, ti_103, ti_108, ti_110, ti_114, ti_127]); omega) | (split <;> omega)) (by first | omega | ((try simp only [Int32.lt_iff_toInt_lt, Int32.le_iff_toInt_le, ← Int32.toInt_inj, Int32.toInt_toInt64, ti_m14, ti_m13, ti_m12, ti_m11, ti_m10, ti_m9, ti_m6, ti_m5, ti_m4, ti_m3, ti_m2, ti_m1, ti_0, ti_1, ti_2, ti_3, ti_4, ti_5, ti_6, ti_7, ti_8, ti_9, ti_10, ti_11, ti_12, ti_19, ti_20, ti_21, ti_44, ti_45, ti_48, ti_57, ti_59, ti_60, ti_98, ti_99, ti_100, ti_101, ti_103, ti_108, ti_110, ti_114, ti_127]); omega) | (split <;> omega))
                refine ⟨hi186, ?_⟩
                have hz187 := vlt hi186
                have hc191 : o01 it171 := i9_o hI175
                refine ⟨hc191, ?_⟩
                have hc192 : ¬ (lg170 489 19) = 0 := by assumption
                refine ⟨hc192, ?_⟩
                have hc193 : (¬ (lg170 504 ((it171 489 0) - 1).toNatClampNeg) = 0) ∨ (¬ it171 489 20 = 0) := by first | assumption | exact Or.inl (by assumption) | exact Or.inl (pos_ne (by assumption)) | exact Or.inl (pos_ne (Int64.not_le.mp (by assumption))) | (rw [em_lg170, setU_row (by decide), em_it171, setO_c (by decide)]; exact Or.inl (pos_ne (Int64.not_le.mp (by assumption)))) | exact Or.inl (by assumption)
                refine ⟨hc193, ?_⟩
                intro q188 em_q188 lg189 em_lg189 it190 em_it190
                have hI194 : I9 lg189 it190 := by rw [em_lg189, em_it190]; exact i9_g hI175 (by rw [em_q188]; exact gB_o (i9_o hI175))
                have hK195 : Kd (fun j => False) (fun k => k = 18 ∨ k = 19 ∨ k = 20 ∨ k = 33 ∨ k = 34 ∨ k = 35) lg0 it0 lg189 it190 := by rw [em_lg189, em_it190]; exact kd_g (by first | decide | (dsimp only; decide) | omega | (dsimp only; omega)) (by first | decide | (dsimp only; decide) | omega | (dsimp only; omega)) (by first | decide | (dsimp only; decide) | omega | (dsimp only; omega)) hK176
                have z19_lg189 : ¬ lg189 489 19 = 0 := by rw [em_lg189, setU_19, em_q188]; exact gB_d hc192 hc193
                have e196 : (it190 489 0).toInt = (it171 489 0).toInt := by rw [em_it190]; exact congrArg Int32.toInt (setO_c (by decide))
                have e197 : (it190 489 32).toInt = (it171 489 32).toInt := by rw [em_it190]; exact congrArg Int32.toInt (setO_c (by decide))
                have PT198 : T9 lg189 it190 := T9_c PT179 (by rw [em_lg189]; exact setU_row (by decide)) (by rw [em_lg189]; exact setU_row (by decide)) (by rw [em_it190]; exact setO_row (by decide)) (by rw [em_it190]; exact setO_c (by decide))
                have PW199 : W9 lg189 it190 := W9_c PW180 (by rw [em_lg189]; exact setU_c (by decide) (by decide)) (by rw [em_it190]; exact setO_c (by decide)) (by rw [em_it190]; exact setO_c (by decide))
                refine ⟨_, s_X9_offers  ((9 : Int32)) hI194 (z19_lg189) (PW199) (by first | omega | (simp only [Int32.lt_iff_toInt_lt, Int32.le_iff_toInt_le, ← Int32.toInt_inj, Int32.toInt_toInt64, ti_m14, ti_m13, ti_m12, ti_m11, ti_m10, ti_m9, ti_m6, ti_m5, ti_m4, ti_m3, ti_m2, ti_m1, ti_0, ti_1, ti_2, ti_3, ti_4, ti_5, ti_6, ti_7, ti_8, ti_9, ti_10, ti_11, ti_12, ti_19, ti_20, ti_21, ti_44, ti_45, ti_48, ti_57, ti_59, ti_60, ti_98, ti_99, ti_100, ti_101, ti_103, ti_108, ti_110, ti_114, ti_127] at *; omega)), ?_⟩
                intro lg200 it201 hq
                obtain ⟨⟨hI202, hK203⟩, ha206⟩ := hq
                have hK204 : Kd (fun j => False) (fun k => k = 18 ∨ k = 19 ∨ k = 20 ∨ k = 33 ∨ k = 34 ∨ k = 35) lg0 it0 lg200 it201 := kd_t hK195 hK203 (fun j hj => by first | omega | exact False.elim hj | (dsimp only at hj ⊢; omega)) (fun j hj => by first | omega | exact False.elim hj | (dsimp only at hj ⊢; omega))
                try have e207 : (it201 489 0).toInt = (it190 489 0).toInt := congrArg Int32.toInt (hK203.2 0 (by first | decide | (dsimp only; decide) | omega | (dsimp only; omega))).2
                try have e208 : (it201 489 32).toInt = (it190 489 32).toInt := congrArg Int32.toInt (hK203.2 32 (by first | decide | (dsimp only; decide) | omega | (dsimp only; omega))).2
                have PT209 : T9 lg200 it201 := T9_c PT198 (hK203.1 503 (by decide) (by first | decide | (dsimp only; decide) | omega | (dsimp only; omega))).1 (hK203.1 505 (by decide) (by first | decide | (dsimp only; decide) | omega | (dsimp only; omega))).1 (hK203.1 501 (by decide) (by first | decide | (dsimp only; decide) | omega | (dsimp only; omega))).2 (hK203.2 0 (by first | decide | (dsimp only; decide) | omega | (dsimp only; omega))).2
                subst hp
                exact ⟨⟨hI202, hK204⟩, ⟨rfl, ha206⟩⟩
        · try simp only [Int32.lt_iff_toInt_lt, Int32.le_iff_toInt_le, ← Int32.toInt_inj, Int32.toInt_toInt64, ti_m14, ti_m13, ti_m12, ti_m11, ti_m10, ti_m9, ti_m6, ti_m5, ti_m4, ti_m3, ti_m2, ti_m1, ti_0, ti_1, ti_2, ti_3, ti_4, ti_5, ti_6, ti_7, ti_8, ti_9, ti_10, ti_11, ti_12, ti_19, ti_20, ti_21, ti_44, ti_45, ti_48, ti_57, ti_59, ti_60, ti_98, ti_99, ti_100, ti_101, ti_103, ti_108, ti_110, ti_114, ti_127] at c86
          have hi210 : vp_in x1 6 := vp_of (by first | omega | ((try simp only [Int32.lt_iff_toInt_lt, Int32.le_iff_toInt_le, ← Int32.toInt_inj, Int32.toInt_toInt64, ti_m14, ti_m13, ti_m12, ti_m11, ti_m10, ti_m9, ti_m6, ti_m5, ti_m4, ti_m3, ti_m2, ti_m1, ti_0, ti_1, ti_2, ti_3, ti_4, ti_5, ti_6, ti_7, ti_8, ti_9, ti_10, ti_11, ti_12, ti_19, ti_20, ti_21, ti_44, ti_45, ti_48, ti_57, ti_59, ti_60, ti_98, ti_99, ti_100, ti_101, ti_103, ti_108, ti_110, ti_114, ti_127]); omega) | (split <;> omega)) (by first | omega | ((try simp only [Int32.lt_iff_toInt_lt, Int32.le_iff_toInt_le, ← Int32.toInt_inj, Int32.toInt_toInt64, ti_m14, ti_m13, ti_m12, ti_m11, ti_m10, ti_m9, ti_m6, ti_m5, ti_m4, ti_m3, ti_m2, ti_m1, ti_0, ti_1, ti_2, ti_3, ti_4, ti_5, ti_6, ti_7, ti_8, ti_9, ti_10, ti_11, ti_12, ti_19, ti_20, ti_21, ti_44, ti_45, ti_48, ti_57, ti_59, ti_60, ti_98, ti_99, ti_100, ti_101, ti_103, ti_108, ti_110, ti_114, ti_127]); omega) | (split <;> omega))
          refine ⟨hi210, ?_⟩
          have hz211 := vlt hi210
          have hi212 : vp_in x1 6 := vp_of (by first | omega | ((try simp only [Int32.lt_iff_toInt_lt, Int32.le_iff_toInt_le, ← Int32.toInt_inj, Int32.toInt_toInt64, ti_m14, ti_m13, ti_m12, ti_m11, ti_m10, ti_m9, ti_m6, ti_m5, ti_m4, ti_m3, ti_m2, ti_m1, ti_0, ti_1, ti_2, ti_3, ti_4, ti_5, ti_6, ti_7, ti_8, ti_9, ti_10, ti_11, ti_12, ti_19, ti_20, ti_21, ti_44, ti_45, ti_48, ti_57, ti_59, ti_60, ti_98, ti_99, ti_100, ti_101, ti_103, ti_108, ti_110, ti_114, ti_127]); omega) | (split <;> omega)) (by first | omega | ((try simp only [Int32.lt_iff_toInt_lt, Int32.le_iff_toInt_le, ← Int32.toInt_inj, Int32.toInt_toInt64, ti_m14, ti_m13, ti_m12, ti_m11, ti_m10, ti_m9, ti_m6, ti_m5, ti_m4, ti_m3, ti_m2, ti_m1, ti_0, ti_1, ti_2, ti_3, ti_4, ti_5, ti_6, ti_7, ti_8, ti_9, ti_10, ti_11, ti_12, ti_19, ti_20, ti_21, ti_44, ti_45, ti_48, ti_57, ti_59, ti_60, ti_98, ti_99, ti_100, ti_101, ti_103, ti_108, ti_110, ti_114, ti_127]); omega) | (split <;> omega))
          refine ⟨hi212, ?_⟩
          have hz213 := vlt hi212
          try have f214 : ((x1 + 1) : Int32).toInt = (x1).toInt + 1 := ad32 (a := (x1).toInt) (b := 1) (rfl) (ti_1) (by omega) (by omega)
          have hi215 : vp_in (x1 + 1) 6 := vp_of (by first | omega | ((try simp only [Int32.lt_iff_toInt_lt, Int32.le_iff_toInt_le, ← Int32.toInt_inj, Int32.toInt_toInt64, ti_m14, ti_m13, ti_m12, ti_m11, ti_m10, ti_m9, ti_m6, ti_m5, ti_m4, ti_m3, ti_m2, ti_m1, ti_0, ti_1, ti_2, ti_3, ti_4, ti_5, ti_6, ti_7, ti_8, ti_9, ti_10, ti_11, ti_12, ti_19, ti_20, ti_21, ti_44, ti_45, ti_48, ti_57, ti_59, ti_60, ti_98, ti_99, ti_100, ti_101, ti_103, ti_108, ti_110, ti_114, ti_127]); omega) | (split <;> omega)) (by first | omega | ((try simp only [Int32.lt_iff_toInt_lt, Int32.le_iff_toInt_le, ← Int32.toInt_inj, Int32.toInt_toInt64, ti_m14, ti_m13, ti_m12, ti_m11, ti_m10, ti_m9, ti_m6, ti_m5, ti_m4, ti_m3, ti_m2, ti_m1, ti_0, ti_1, ti_2, ti_3, ti_4, ti_5, ti_6, ti_7, ti_8, ti_9, ti_10, ti_11, ti_12, ti_19, ti_20, ti_21, ti_44, ti_45, ti_48, ti_57, ti_59, ti_60, ti_98, ti_99, ti_100, ti_101, ti_103, ti_108, ti_110, ti_114, ti_127]); omega) | (split <;> omega))
          refine ⟨hi215, ?_⟩
          have hz216 := vlt hi215
          try have f217 : ((x1 + 1) : Int32).toInt = (x1).toInt + 1 := ad32 (a := (x1).toInt) (b := 1) (rfl) (ti_1) (by omega) (by omega)
          have hi218 : vp_in (x1 + 1) 6 := vp_of (by first | omega | ((try simp only [Int32.lt_iff_toInt_lt, Int32.le_iff_toInt_le, ← Int32.toInt_inj, Int32.toInt_toInt64, ti_m14, ti_m13, ti_m12, ti_m11, ti_m10, ti_m9, ti_m6, ti_m5, ti_m4, ti_m3, ti_m2, ti_m1, ti_0, ti_1, ti_2, ti_3, ti_4, ti_5, ti_6, ti_7, ti_8, ti_9, ti_10, ti_11, ti_12, ti_19, ti_20, ti_21, ti_44, ti_45, ti_48, ti_57, ti_59, ti_60, ti_98, ti_99, ti_100, ti_101, ti_103, ti_108, ti_110, ti_114, ti_127]); omega) | (split <;> omega)) (by first | omega | ((try simp only [Int32.lt_iff_toInt_lt, Int32.le_iff_toInt_le, ← Int32.toInt_inj, Int32.toInt_toInt64, ti_m14, ti_m13, ti_m12, ti_m11, ti_m10, ti_m9, ti_m6, ti_m5, ti_m4, ti_m3, ti_m2, ti_m1, ti_0, ti_1, ti_2, ti_3, ti_4, ti_5, ti_6, ti_7, ti_8, ti_9, ti_10, ti_11, ti_12, ti_19, ti_20, ti_21, ti_44, ti_45, ti_48, ti_57, ti_59, ti_60, ti_98, ti_99, ti_100, ti_101, ti_103, ti_108, ti_110, ti_114, ti_127]); omega) | (split <;> omega))
          refine ⟨hi218, ?_⟩
          have hz219 := vlt hi218
          have hc223 : o01 it157 := i9_o hI154
          refine ⟨hc223, ?_⟩
          have hc224 : ¬ (lg156 505 x1.toNatClampNeg) = 0 := (hv79_1 (x1).toNatClampNeg (by have z1 := cl32 (i := x1) (by omega); omega) (by have z1 := cl32 (i := x1) (by omega); omega)).1.2
          refine ⟨hc224, ?_⟩
          have hc225 : ¬ (lg156 505 (x1 + 1).toNatClampNeg) = 0 := (hv79_1 ((x1 + 1)).toNatClampNeg (by have z1 := cl32 (i := (x1 + 1)) (by omega); omega) (by have z1 := cl32 (i := (x1 + 1)) (by omega); omega)).1.2
          refine ⟨hc225, ?_⟩
          intro q220 em_q220 lg221 em_lg221 it222 em_it222
          have hI226 : I9 lg221 it222 := by rw [em_lg221, em_it222]; exact i9_g hI154 (by rw [em_q220]; exact gL_o (i9_o hI154))
          have hK227 : Kd (fun j => False) (fun k => k = 18 ∨ k = 19 ∨ k = 20 ∨ k = 33 ∨ k = 34 ∨ k = 35) lg0 it0 lg221 it222 := by rw [em_lg221, em_it222]; exact kd_g (by first | decide | (dsimp only; decide) | omega | (dsimp only; omega)) (by first | decide | (dsimp only; decide) | omega | (dsimp only; omega)) (by first | decide | (dsimp only; decide) | omega | (dsimp only; omega)) hK155
          have z19_lg221 : ¬ lg221 489 19 = 0 := by rw [em_lg221, setU_19, em_q220]; exact gL_d hc224 hc225
          have e228 : (it222 489 0).toInt = (it157 489 0).toInt := by rw [em_it222]; exact congrArg Int32.toInt (setO_c (by decide))
          have PT229 : T9 lg221 it222 := T9_c hv79_1 (by rw [em_lg221]; exact setU_row (by decide)) (by rw [em_lg221]; exact setU_row (by decide)) (by rw [em_it222]; exact setO_row (by decide)) (by rw [em_it222]; exact setO_c (by decide))
          have PW230 : W9 lg221 it222 := W9_c hv79_2 (by rw [em_lg221]; exact setU_c (by decide) (by decide)) (by rw [em_it222]; exact setO_c (by decide)) (by rw [em_it222]; exact setO_c (by decide))
          refine ⟨fun c127 => ?_, fun c127 => ?_⟩
          · try simp only [Int32.lt_iff_toInt_lt, Int32.le_iff_toInt_le, ← Int32.toInt_inj, Int32.toInt_toInt64, ti_m14, ti_m13, ti_m12, ti_m11, ti_m10, ti_m9, ti_m6, ti_m5, ti_m4, ti_m3, ti_m2, ti_m1, ti_0, ti_1, ti_2, ti_3, ti_4, ti_5, ti_6, ti_7, ti_8, ti_9, ti_10, ti_11, ti_12, ti_19, ti_20, ti_21, ti_44, ti_45, ti_48, ti_57, ti_59, ti_60, ti_98, ti_99, ti_100, ti_101, ti_103, ti_108, ti_110, ti_114, ti_127] at c127
            try have f231 : ((x1 + 1) : Int32).toInt = (x1).toInt + 1 := ad32 (a := (x1).toInt) (b := 1) (rfl) (ti_1) (by omega) (by omega)
            have hi232 : vp_in (x1 + 1) 6 := vp_of (by first | omega | ((try simp only [Int32.lt_iff_toInt_lt, Int32.le_iff_toInt_le, ← Int32.toInt_inj, Int32.toInt_toInt64, ti_m14, ti_m13, ti_m12, ti_m11, ti_m10, ti_m9, ti_m6, ti_m5, ti_m4, ti_m3, ti_m2, ti_m1, ti_0, ti_1, ti_2, ti_3, ti_4, ti_5, ti_6, ti_7, ti_8, ti_9, ti_10, ti_11, ti_12, ti_19, ti_20, ti_21, ti_44, ti_45, ti_48, ti_57, ti_59, ti_60, ti_98, ti_99, ti_100, ti_101, ti_103, ti_108, ti_110, ti_114, ti_127]); omega) | (split <;> omega)) (by first | omega | ((try simp only [Int32.lt_iff_toInt_lt, Int32.le_iff_toInt_le, ← Int32.toInt_inj, Int32.toInt_toInt64, ti_m14, ti_m13, ti_m12, ti_m11, ti_m10, ti_m9, ti_m6, ti_m5, ti_m4, ti_m3, ti_m2, ti_m1, ti_0, ti_1, ti_2, ti_3, ti_4, ti_5, ti_6, ti_7, ti_8, ti_9, ti_10, ti_11, ti_12, ti_19, ti_20, ti_21, ti_44, ti_45, ti_48, ti_57, ti_59, ti_60, ti_98, ti_99, ti_100, ti_101, ti_103, ti_108, ti_110, ti_114, ti_127]); omega) | (split <;> omega))
            refine ⟨hi232, ?_⟩
            have hz233 := vlt hi232
            try have f234 : ((x1 + 1) : Int32).toInt = (x1).toInt + 1 := ad32 (a := (x1).toInt) (b := 1) (rfl) (ti_1) (by omega) (by omega)
            have hi235 : vp_in (x1 + 1) 6 := vp_of (by first | omega | ((try simp only [Int32.lt_iff_toInt_lt, Int32.le_iff_toInt_le, ← Int32.toInt_inj, Int32.toInt_toInt64, ti_m14, ti_m13, ti_m12, ti_m11, ti_m10, ti_m9, ti_m6, ti_m5, ti_m4, ti_m3, ti_m2, ti_m1, ti_0, ti_1, ti_2, ti_3, ti_4, ti_5, ti_6, ti_7, ti_8, ti_9, ti_10, ti_11, ti_12, ti_19, ti_20, ti_21, ti_44, ti_45, ti_48, ti_57, ti_59, ti_60, ti_98, ti_99, ti_100, ti_101, ti_103, ti_108, ti_110, ti_114, ti_127]); omega) | (split <;> omega)) (by first | omega | ((try simp only [Int32.lt_iff_toInt_lt, Int32.le_iff_toInt_le, ← Int32.toInt_inj, Int32.toInt_toInt64, ti_m14, ti_m13, ti_m12, ti_m11, ti_m10, ti_m9, ti_m6, ti_m5, ti_m4, ti_m3, ti_m2, ti_m1, ti_0, ti_1, ti_2, ti_3, ti_4, ti_5, ti_6, ti_7, ti_8, ti_9, ti_10, ti_11, ti_12, ti_19, ti_20, ti_21, ti_44, ti_45, ti_48, ti_57, ti_59, ti_60, ti_98, ti_99, ti_100, ti_101, ti_103, ti_108, ti_110, ti_114, ti_127]); omega) | (split <;> omega))
            refine ⟨hi235, ?_⟩
            have hz236 := vlt hi235
            have hi237 : vp_in x1 6 := vp_of (by first | omega | ((try simp only [Int32.lt_iff_toInt_lt, Int32.le_iff_toInt_le, ← Int32.toInt_inj, Int32.toInt_toInt64, ti_m14, ti_m13, ti_m12, ti_m11, ti_m10, ti_m9, ti_m6, ti_m5, ti_m4, ti_m3, ti_m2, ti_m1, ti_0, ti_1, ti_2, ti_3, ti_4, ti_5, ti_6, ti_7, ti_8, ti_9, ti_10, ti_11, ti_12, ti_19, ti_20, ti_21, ti_44, ti_45, ti_48, ti_57, ti_59, ti_60, ti_98, ti_99, ti_100, ti_101, ti_103, ti_108, ti_110, ti_114, ti_127]); omega) | (split <;> omega)) (by first | omega | ((try simp only [Int32.lt_iff_toInt_lt, Int32.le_iff_toInt_le, ← Int32.toInt_inj, Int32.toInt_toInt64, ti_m14, ti_m13, ti_m12, ti_m11, ti_m10, ti_m9, ti_m6, ti_m5, ti_m4, ti_m3, ti_m2, ti_m1, ti_0, ti_1, ti_2, ti_3, ti_4, ti_5, ti_6, ti_7, ti_8, ti_9, ti_10, ti_11, ti_12, ti_19, ti_20, ti_21, ti_44, ti_45, ti_48, ti_57, ti_59, ti_60, ti_98, ti_99, ti_100, ti_101, ti_103, ti_108, ti_110, ti_114, ti_127]); omega) | (split <;> omega))
            refine ⟨hi237, ?_⟩
            have hz238 := vlt hi237
            have hi239 : vp_in x1 6 := vp_of (by first | omega | ((try simp only [Int32.lt_iff_toInt_lt, Int32.le_iff_toInt_le, ← Int32.toInt_inj, Int32.toInt_toInt64, ti_m14, ti_m13, ti_m12, ti_m11, ti_m10, ti_m9, ti_m6, ti_m5, ti_m4, ti_m3, ti_m2, ti_m1, ti_0, ti_1, ti_2, ti_3, ti_4, ti_5, ti_6, ti_7, ti_8, ti_9, ti_10, ti_11, ti_12, ti_19, ti_20, ti_21, ti_44, ti_45, ti_48, ti_57, ti_59, ti_60, ti_98, ti_99, ti_100, ti_101, ti_103, ti_108, ti_110, ti_114, ti_127]); omega) | (split <;> omega)) (by first | omega | ((try simp only [Int32.lt_iff_toInt_lt, Int32.le_iff_toInt_le, ← Int32.toInt_inj, Int32.toInt_toInt64, ti_m14, ti_m13, ti_m12, ti_m11, ti_m10, ti_m9, ti_m6, ti_m5, ti_m4, ti_m3, ti_m2, ti_m1, ti_0, ti_1, ti_2, ti_3, ti_4, ti_5, ti_6, ti_7, ti_8, ti_9, ti_10, ti_11, ti_12, ti_19, ti_20, ti_21, ti_44, ti_45, ti_48, ti_57, ti_59, ti_60, ti_98, ti_99, ti_100, ti_101, ti_103, ti_108, ti_110, ti_114, ti_127]); omega) | (split <;> omega))
            refine ⟨hi239, ?_⟩
            have hz240 := vlt hi239
            have hc244 : o01 it222 := i9_o hI226
            refine ⟨hc244, ?_⟩
            have hc245 : ¬ (lg221 503 (x1 + 1).toNatClampNeg) = 0 := (PT229 ((x1 + 1)).toNatClampNeg (by have z1 := cl32 (i := (x1 + 1)) (by omega); omega) (by have z1 := cl32 (i := (x1 + 1)) (by omega); omega)).1.1
            refine ⟨hc245, ?_⟩
            have hc246 : ¬ (lg221 503 x1.toNatClampNeg) = 0 := (PT229 (x1).toNatClampNeg (by have z1 := cl32 (i := x1) (by omega); omega) (by have z1 := cl32 (i := x1) (by omega); omega)).1.1
            refine ⟨hc246, ?_⟩
            intro q241 em_q241 lg242 em_lg242 it243 em_it243
            have hI247 : I9 lg242 it243 := by rw [em_lg242, em_it243]; exact i9_g hI226 (by rw [em_q241]; exact gL_o (i9_o hI226))
            have hK248 : Kd (fun j => False) (fun k => k = 18 ∨ k = 19 ∨ k = 20 ∨ k = 33 ∨ k = 34 ∨ k = 35) lg0 it0 lg242 it243 := by rw [em_lg242, em_it243]; exact kd_g (by first | decide | (dsimp only; decide) | omega | (dsimp only; omega)) (by first | decide | (dsimp only; decide) | omega | (dsimp only; omega)) (by first | decide | (dsimp only; decide) | omega | (dsimp only; omega)) hK227
            have z19_lg242 : ¬ lg242 489 19 = 0 := by rw [em_lg242, setU_19, em_q241]; exact gL_d hc245 hc246
            have e249 : (it243 489 0).toInt = (it222 489 0).toInt := by rw [em_it243]; exact congrArg Int32.toInt (setO_c (by decide))
            have PT250 : T9 lg242 it243 := T9_c PT229 (by rw [em_lg242]; exact setU_row (by decide)) (by rw [em_lg242]; exact setU_row (by decide)) (by rw [em_it243]; exact setO_row (by decide)) (by rw [em_it243]; exact setO_c (by decide))
            have PW251 : W9 lg242 it243 := W9_c PW230 (by rw [em_lg242]; exact setU_c (by decide) (by decide)) (by rw [em_it243]; exact setO_c (by decide)) (by rw [em_it243]; exact setO_c (by decide))
            have hc255 : o01 it243 := i9_o hI247
            refine ⟨hc255, ?_⟩
            have hc256 : ¬ (lg242 489 19) = 0 := by assumption
            refine ⟨hc256, ?_⟩
            have hc257 : (¬ (lg221 489 18) = 0) ∨ (¬ it243 489 20 = 0) := by first | assumption | exact Or.inl (by assumption) | exact Or.inl (pos_ne (by assumption)) | exact Or.inl (pos_ne (Int64.not_le.mp (by assumption))) | (rw [em_lg242, setU_row (by decide), em_it243, setO_c (by decide)]; exact Or.inl (pos_ne (Int64.not_le.mp (by assumption)))) | exact Or.inl (by assumption)
            refine ⟨hc257, ?_⟩
            intro q252 em_q252 lg253 em_lg253 it254 em_it254
            have hI258 : I9 lg253 it254 := by rw [em_lg253, em_it254]; exact i9_g hI247 (by rw [em_q252]; exact gB_o (i9_o hI247))
            have hK259 : Kd (fun j => False) (fun k => k = 18 ∨ k = 19 ∨ k = 20 ∨ k = 33 ∨ k = 34 ∨ k = 35) lg0 it0 lg253 it254 := by rw [em_lg253, em_it254]; exact kd_g (by first | decide | (dsimp only; decide) | omega | (dsimp only; omega)) (by first | decide | (dsimp only; decide) | omega | (dsimp only; omega)) (by first | decide | (dsimp only; decide) | omega | (dsimp only; omega)) hK248
            have z19_lg253 : ¬ lg253 489 19 = 0 := by rw [em_lg253, setU_19, em_q252]; exact gB_d hc256 hc257
            have e260 : (it254 489 0).toInt = (it243 489 0).toInt := by rw [em_it254]; exact congrArg Int32.toInt (setO_c (by decide))
            have PT261 : T9 lg253 it254 := T9_c PT250 (by rw [em_lg253]; exact setU_row (by decide)) (by rw [em_lg253]; exact setU_row (by decide)) (by rw [em_it254]; exact setO_row (by decide)) (by rw [em_it254]; exact setO_c (by decide))
            have PW262 : W9 lg253 it254 := W9_c PW251 (by rw [em_lg253]; exact setU_c (by decide) (by decide)) (by rw [em_it254]; exact setO_c (by decide)) (by rw [em_it254]; exact setO_c (by decide))
            try have f263 : ((x1 + 1) : Int32).toInt = (x1).toInt + 1 := ad32 (a := (x1).toInt) (b := 1) (rfl) (ti_1) (by omega) (by omega)
            refine ⟨_, s_X9_offers  ((x1 + 1)) hI258 (z19_lg253) (PW262) (by first | omega | (simp only [Int32.lt_iff_toInt_lt, Int32.le_iff_toInt_le, ← Int32.toInt_inj, Int32.toInt_toInt64, ti_m14, ti_m13, ti_m12, ti_m11, ti_m10, ti_m9, ti_m6, ti_m5, ti_m4, ti_m3, ti_m2, ti_m1, ti_0, ti_1, ti_2, ti_3, ti_4, ti_5, ti_6, ti_7, ti_8, ti_9, ti_10, ti_11, ti_12, ti_19, ti_20, ti_21, ti_44, ti_45, ti_48, ti_57, ti_59, ti_60, ti_98, ti_99, ti_100, ti_101, ti_103, ti_108, ti_110, ti_114, ti_127] at *; omega)), ?_⟩
            intro lg264 it265 hq
            obtain ⟨⟨hI266, hK267⟩, ha270⟩ := hq
            have hK268 : Kd (fun j => False) (fun k => k = 18 ∨ k = 19 ∨ k = 20 ∨ k = 33 ∨ k = 34 ∨ k = 35) lg0 it0 lg264 it265 := kd_t hK259 hK267 (fun j hj => by first | omega | exact False.elim hj | (dsimp only at hj ⊢; omega)) (fun j hj => by first | omega | exact False.elim hj | (dsimp only at hj ⊢; omega))
            try have e271 : (it265 489 0).toInt = (it254 489 0).toInt := congrArg Int32.toInt (hK267.2 0 (by first | decide | (dsimp only; decide) | omega | (dsimp only; omega))).2
            have PT272 : T9 lg264 it265 := T9_c PT261 (hK267.1 503 (by decide) (by first | decide | (dsimp only; decide) | omega | (dsimp only; omega))).1 (hK267.1 505 (by decide) (by first | decide | (dsimp only; decide) | omega | (dsimp only; omega))).1 (hK267.1 501 (by decide) (by first | decide | (dsimp only; decide) | omega | (dsimp only; omega))).2 (hK267.2 0 (by first | decide | (dsimp only; decide) | omega | (dsimp only; omega))).2
            try have f273 : ((x1 + 1) : Int32).toInt = (x1).toInt + 1 := ad32 (a := (x1).toInt) (b := 1) (rfl) (ti_1) (by omega) (by omega)
            exact ih79 ((x1 + 1)) _ _ hI266 hK268 (by refine ⟨?_, ?_, ?_, ?_, ?_⟩ <;> first | exact Nx_0 | omega | assumption | exact Or.inl rfl | exact Or.inr rfl | exact i8_1 (by assumption) (by assumption) | decide) (by omega)
          · try simp only [Int32.lt_iff_toInt_lt, Int32.le_iff_toInt_le, ← Int32.toInt_inj, Int32.toInt_toInt64, ti_m14, ti_m13, ti_m12, ti_m11, ti_m10, ti_m9, ti_m6, ti_m5, ti_m4, ti_m3, ti_m2, ti_m1, ti_0, ti_1, ti_2, ti_3, ti_4, ti_5, ti_6, ti_7, ti_8, ti_9, ti_10, ti_11, ti_12, ti_19, ti_20, ti_21, ti_44, ti_45, ti_48, ti_57, ti_59, ti_60, ti_98, ti_99, ti_100, ti_101, ti_103, ti_108, ti_110, ti_114, ti_127] at c127
            try have f274 : ((x1 + 1) : Int32).toInt = (x1).toInt + 1 := ad32 (a := (x1).toInt) (b := 1) (rfl) (ti_1) (by omega) (by omega)
            exact ih79 ((x1 + 1)) _ _ hI226 hK227 (by refine ⟨?_, ?_, ?_, ?_, ?_⟩ <;> first | exact Nx_0 | omega | assumption | exact Or.inl rfl | exact Or.inr rfl | exact i8_1 (by assumption) (by assumption) | decide) (by omega)
    have t275 := ti_0
    exact ⟨_, lp79 ((7 - ((0 : Int32)).toInt).toNat + 1) ((0 : Int32)) _ _ hI148 hK149 (by refine ⟨?_, ?_, ?_, ?_, ?_⟩ <;> first | exact Nx_0 | omega | assumption | exact Or.inl rfl | exact Or.inr rfl | exact i8_1 (by assumption) (by assumption) | decide) (Nat.lt_succ_self _)⟩
  · try simp only [Int32.lt_iff_toInt_lt, Int32.le_iff_toInt_le, ← Int32.toInt_inj, Int32.toInt_toInt64, ti_m14, ti_m13, ti_m12, ti_m11, ti_m10, ti_m9, ti_m6, ti_m5, ti_m4, ti_m3, ti_m2, ti_m1, ti_0, ti_1, ti_2, ti_3, ti_4, ti_5, ti_6, ti_7, ti_8, ti_9, ti_10, ti_11, ti_12, ti_19, ti_20, ti_21, ti_44, ti_45, ti_48, ti_57, ti_59, ti_60, ti_98, ti_99, ti_100, ti_101, ti_103, ti_108, ti_110, ti_114, ti_127] at c9
    refine ⟨fun c16 => ?_, fun c16 => ?_⟩
    · try simp only [Int32.lt_iff_toInt_lt, Int32.le_iff_toInt_le, ← Int32.toInt_inj, Int32.toInt_toInt64, ti_m14, ti_m13, ti_m12, ti_m11, ti_m10, ti_m9, ti_m6, ti_m5, ti_m4, ti_m3, ti_m2, ti_m1, ti_0, ti_1, ti_2, ti_3, ti_4, ti_5, ti_6, ti_7, ti_8, ti_9, ti_10, ti_11, ti_12, ti_19, ti_20, ti_21, ti_44, ti_45, ti_48, ti_57, ti_59, ti_60, ti_98, ti_99, ti_100, ti_101, ti_103, ti_108, ti_110, ti_114, ti_127] at c16
      have lp79 : ∀ (n : Nat) (x1 : Int32) (lg : LGt) (it : ITt), I9 lg it → Kd (fun j => False) (fun k => k = 18 ∨ k = 19 ∨ k = 20 ∨ k = 33 ∨ k = 34 ∨ k = 35) lg0 it0 lg it → ((0 ≤ (x1).toInt) ∧ (T9 lg it) ∧ (W9 lg it) ∧ ((it 489 0).toInt = (it0 489 0).toInt) ∧ ((x1).toInt ≤ 6)) → (7 - (x1).toInt).toNat < n → w_X9_next_b79  Pz  n x1 lg it := by
        intro n79
        induction n79 with
        | zero => intro x1 lg it _ _ _ hn; exact absurd hn (Nat.not_lt_zero _)
        | succ n79 ih79 =>
          intro x1 lg278 it279 hI276 hK277 hv hn
          unfold w_X9_next_b79
          obtain ⟨hv79_0, hv79_1, hv79_2, hv79_3, hv79_4⟩ := hv
          try have f280 : ((x1 + 1) : Int32).toInt = (x1).toInt + 1 := ad32 (a := (x1).toInt) (b := 1) (rfl) (ti_1) (by omega) (by omega)
          have f281 : 0 ≤ (it279 489 0).toInt ∧ (it279 489 0).toInt ≤ 6 := i9_f hI276 (j := 489) (k := 0) rfl
          refine ⟨fun c86 => ?_, fun c86 => ?_⟩
          · try simp only [Int32.lt_iff_toInt_lt, Int32.le_iff_toInt_le, ← Int32.toInt_inj, Int32.toInt_toInt64, ti_m14, ti_m13, ti_m12, ti_m11, ti_m10, ti_m9, ti_m6, ti_m5, ti_m4, ti_m3, ti_m2, ti_m1, ti_0, ti_1, ti_2, ti_3, ti_4, ti_5, ti_6, ti_7, ti_8, ti_9, ti_10, ti_11, ti_12, ti_19, ti_20, ti_21, ti_44, ti_45, ti_48, ti_57, ti_59, ti_60, ti_98, ti_99, ti_100, ti_101, ti_103, ti_108, ti_110, ti_114, ti_127] at c86
            refine ⟨fun c208 => ?_, fun c208 => ?_⟩
            · try simp only [Int32.lt_iff_toInt_lt, Int32.le_iff_toInt_le, ← Int32.toInt_inj, Int32.toInt_toInt64, ti_m14, ti_m13, ti_m12, ti_m11, ti_m10, ti_m9, ti_m6, ti_m5, ti_m4, ti_m3, ti_m2, ti_m1, ti_0, ti_1, ti_2, ti_3, ti_4, ti_5, ti_6, ti_7, ti_8, ti_9, ti_10, ti_11, ti_12, ti_19, ti_20, ti_21, ti_44, ti_45, ti_48, ti_57, ti_59, ti_60, ti_98, ti_99, ti_100, ti_101, ti_103, ti_108, ti_110, ti_114, ti_127] at c208
              subst hp
              exact ⟨⟨hI276, hK277⟩, ⟨rfl, hv79_2⟩⟩
            · try simp only [Int32.lt_iff_toInt_lt, Int32.le_iff_toInt_le, ← Int32.toInt_inj, Int32.toInt_toInt64, ti_m14, ti_m13, ti_m12, ti_m11, ti_m10, ti_m9, ti_m6, ti_m5, ti_m4, ti_m3, ti_m2, ti_m1, ti_0, ti_1, ti_2, ti_3, ti_4, ti_5, ti_6, ti_7, ti_8, ti_9, ti_10, ti_11, ti_12, ti_19, ti_20, ti_21, ti_44, ti_45, ti_48, ti_57, ti_59, ti_60, ti_98, ti_99, ti_100, ti_101, ti_103, ti_108, ti_110, ti_114, ti_127] at c208
              refine ⟨fun c215 => ?_, fun c215 => ?_⟩
              · try simp only [Int32.lt_iff_toInt_lt, Int32.le_iff_toInt_le, ← Int32.toInt_inj, Int32.toInt_toInt64, ti_m14, ti_m13, ti_m12, ti_m11, ti_m10, ti_m9, ti_m6, ti_m5, ti_m4, ti_m3, ti_m2, ti_m1, ti_0, ti_1, ti_2, ti_3, ti_4, ti_5, ti_6, ti_7, ti_8, ti_9, ti_10, ti_11, ti_12, ti_19, ti_20, ti_21, ti_44, ti_45, ti_48, ti_57, ti_59, ti_60, ti_98, ti_99, ti_100, ti_101, ti_103, ti_108, ti_110, ti_114, ti_127] at c215
                subst hp
                exact ⟨⟨hI276, hK277⟩, ⟨rfl, hv79_2⟩⟩
              · try simp only [Int32.lt_iff_toInt_lt, Int32.le_iff_toInt_le, ← Int32.toInt_inj, Int32.toInt_toInt64, ti_m14, ti_m13, ti_m12, ti_m11, ti_m10, ti_m9, ti_m6, ti_m5, ti_m4, ti_m3, ti_m2, ti_m1, ti_0, ti_1, ti_2, ti_3, ti_4, ti_5, ti_6, ti_7, ti_8, ti_9, ti_10, ti_11, ti_12, ti_19, ti_20, ti_21, ti_44, ti_45, ti_48, ti_57, ti_59, ti_60, ti_98, ti_99, ti_100, ti_101, ti_103, ti_108, ti_110, ti_114, ti_127] at c215
                try have f282 : (((it279 489 0) - 1) : Int32).toInt = ((it279 489 0)).toInt - 1 := sb32 (a := ((it279 489 0)).toInt) (b := 1) (rfl) (ti_1) (by omega) (by omega)
                have hi283 : vp_in ((it279 489 0) - 1) 6 := vp_of (by first | omega | ((try simp only [Int32.lt_iff_toInt_lt, Int32.le_iff_toInt_le, ← Int32.toInt_inj, Int32.toInt_toInt64, ti_m14, ti_m13, ti_m12, ti_m11, ti_m10, ti_m9, ti_m6, ti_m5, ti_m4, ti_m3, ti_m2, ti_m1, ti_0, ti_1, ti_2, ti_3, ti_4, ti_5, ti_6, ti_7, ti_8, ti_9, ti_10, ti_11, ti_12, ti_19, ti_20, ti_21, ti_44, ti_45, ti_48, ti_57, ti_59, ti_60, ti_98, ti_99, ti_100, ti_101, ti_103, ti_108, ti_110, ti_114, ti_127]); omega) | (split <;> omega)) (by first | omega | ((try simp only [Int32.lt_iff_toInt_lt, Int32.le_iff_toInt_le, ← Int32.toInt_inj, Int32.toInt_toInt64, ti_m14, ti_m13, ti_m12, ti_m11, ti_m10, ti_m9, ti_m6, ti_m5, ti_m4, ti_m3, ti_m2, ti_m1, ti_0, ti_1, ti_2, ti_3, ti_4, ti_5, ti_6, ti_7, ti_8, ti_9, ti_10, ti_11, ti_12, ti_19, ti_20, ti_21, ti_44, ti_45, ti_48, ti_57, ti_59, ti_60, ti_98, ti_99, ti_100, ti_101, ti_103, ti_108, ti_110, ti_114, ti_127]); omega) | (split <;> omega))
                refine ⟨hi283, ?_⟩
                have hz284 := vlt hi283
                refine ⟨fun c231 => ?_, fun c231 => ?_⟩
                · try simp only [Int32.lt_iff_toInt_lt, Int32.le_iff_toInt_le, ← Int32.toInt_inj, Int32.toInt_toInt64, ti_m14, ti_m13, ti_m12, ti_m11, ti_m10, ti_m9, ti_m6, ti_m5, ti_m4, ti_m3, ti_m2, ti_m1, ti_0, ti_1, ti_2, ti_3, ti_4, ti_5, ti_6, ti_7, ti_8, ti_9, ti_10, ti_11, ti_12, ti_19, ti_20, ti_21, ti_44, ti_45, ti_48, ti_57, ti_59, ti_60, ti_98, ti_99, ti_100, ti_101, ti_103, ti_108, ti_110, ti_114, ti_127] at c231
                  subst hp
                  exact ⟨⟨hI276, hK277⟩, ⟨rfl, hv79_2⟩⟩
                · try simp only [Int32.lt_iff_toInt_lt, Int32.le_iff_toInt_le, ← Int32.toInt_inj, Int32.toInt_toInt64, ti_m14, ti_m13, ti_m12, ti_m11, ti_m10, ti_m9, ti_m6, ti_m5, ti_m4, ti_m3, ti_m2, ti_m1, ti_0, ti_1, ti_2, ti_3, ti_4, ti_5, ti_6, ti_7, ti_8, ti_9, ti_10, ti_11, ti_12, ti_19, ti_20, ti_21, ti_44, ti_45, ti_48, ti_57, ti_59, ti_60, ti_98, ti_99, ti_100, ti_101, ti_103, ti_108, ti_110, ti_114, ti_127] at c231
                  try have f285 : (((it279 489 0) - 1) : Int32).toInt = ((it279 489 0)).toInt - 1 := sb32 (a := ((it279 489 0)).toInt) (b := 1) (rfl) (ti_1) (by omega) (by omega)
                  have hi286 : vp_in ((it279 489 0) - 1) 6 := vp_of (by first | omega | ((try simp only [Int32.lt_iff_toInt_lt, Int32.le_iff_toInt_le, ← Int32.toInt_inj, Int32.toInt_toInt64, ti_m14, ti_m13, ti_m12, ti_m11, ti_m10, ti_m9, ti_m6, ti_m5, ti_m4, ti_m3, ti_m2, ti_m1, ti_0, ti_1, ti_2, ti_3, ti_4, ti_5, ti_6, ti_7, ti_8, ti_9, ti_10, ti_11, ti_12, ti_19, ti_20, ti_21, ti_44, ti_45, ti_48, ti_57, ti_59, ti_60, ti_98, ti_99, ti_100, ti_101, ti_103, ti_108, ti_110, ti_114, ti_127]); omega) | (split <;> omega)) (by first | omega | ((try simp only [Int32.lt_iff_toInt_lt, Int32.le_iff_toInt_le, ← Int32.toInt_inj, Int32.toInt_toInt64, ti_m14, ti_m13, ti_m12, ti_m11, ti_m10, ti_m9, ti_m6, ti_m5, ti_m4, ti_m3, ti_m2, ti_m1, ti_0, ti_1, ti_2, ti_3, ti_4, ti_5, ti_6, ti_7, ti_8, ti_9, ti_10, ti_11, ti_12, ti_19, ti_20, ti_21, ti_44, ti_45, ti_48, ti_57, ti_59, ti_60, ti_98, ti_99, ti_100, ti_101, ti_103, ti_108, ti_110, ti_114, ti_127]); omega) | (split <;> omega))
                  refine ⟨hi286, ?_⟩
                  have hz287 := vlt hi286
                  try have f288 : (((it279 489 0) - 1) : Int32).toInt = ((it279 489 0)).toInt - 1 := sb32 (a := ((it279 489 0)).toInt) (b := 1) (rfl) (ti_1) (by omega) (by omega)
                  have hi289 : vp_in ((it279 489 0) - 1) 6 := vp_of (by first | omega | ((try simp only [Int32.lt_iff_toInt_lt, Int32.le_iff_toInt_le, ← Int32.toInt_inj, Int32.toInt_toInt64, ti_m14, ti_m13, ti_m12, ti_m11, ti_m10, ti_m9, ti_m6, ti_m5, ti_m4, ti_m3, ti_m2, ti_m1, ti_0, ti_1, ti_2, ti_3, ti_4, ti_5, ti_6, ti_7, ti_8, ti_9, ti_10, ti_11, ti_12, ti_19, ti_20, ti_21, ti_44, ti_45, ti_48, ti_57, ti_59, ti_60, ti_98, ti_99, ti_100, ti_101, ti_103, ti_108, ti_110, ti_114, ti_127]); omega) | (split <;> omega)) (by first | omega | ((try simp only [Int32.lt_iff_toInt_lt, Int32.le_iff_toInt_le, ← Int32.toInt_inj, Int32.toInt_toInt64, ti_m14, ti_m13, ti_m12, ti_m11, ti_m10, ti_m9, ti_m6, ti_m5, ti_m4, ti_m3, ti_m2, ti_m1, ti_0, ti_1, ti_2, ti_3, ti_4, ti_5, ti_6, ti_7, ti_8, ti_9, ti_10, ti_11, ti_12, ti_19, ti_20, ti_21, ti_44, ti_45, ti_48, ti_57, ti_59, ti_60, ti_98, ti_99, ti_100, ti_101, ti_103, ti_108, ti_110, ti_114, ti_127]); omega) | (split <;> omega))
                  refine ⟨hi289, ?_⟩
                  have hz290 := vlt hi289
                  have hc294 : o01 it279 := i9_o hI276
                  refine ⟨hc294, ?_⟩
                  have hc295 : ¬ (1 : Int64) = 0 := by decide
                  refine ⟨hc295, ?_⟩
                  have hc296 : ¬ (lg278 503 ((it279 489 0) - 1).toNatClampNeg) = 0 := (hv79_1 (((it279 489 0) - 1)).toNatClampNeg (by have z1 := cl32 (i := ((it279 489 0) - 1)) (by omega); omega) (by have z1 := cl32 (i := ((it279 489 0) - 1)) (by omega); omega)).1.1
                  refine ⟨hc296, ?_⟩
                  intro q291 em_q291 lg292 em_lg292 it293 em_it293
                  have hI297 : I9 lg292 it293 := by rw [em_lg292, em_it293]; exact i9_g hI276 (by rw [em_q291]; exact gL_o (i9_o hI276))
                  have hK298 : Kd (fun j => False) (fun k => k = 18 ∨ k = 19 ∨ k = 20 ∨ k = 33 ∨ k = 34 ∨ k = 35) lg0 it0 lg292 it293 := by rw [em_lg292, em_it293]; exact kd_g (by first | decide | (dsimp only; decide) | omega | (dsimp only; omega)) (by first | decide | (dsimp only; decide) | omega | (dsimp only; omega)) (by first | decide | (dsimp only; decide) | omega | (dsimp only; omega)) hK277
                  have z19_lg292 : ¬ lg292 489 19 = 0 := by rw [em_lg292, setU_19, em_q291]; exact gL_d hc295 hc296
                  have e299 : (it293 489 0).toInt = (it279 489 0).toInt := by rw [em_it293]; exact congrArg Int32.toInt (setO_c (by decide))
                  have e300 : (it293 489 32).toInt = (it279 489 32).toInt := by rw [em_it293]; exact congrArg Int32.toInt (setO_c (by decide))
                  have PT301 : T9 lg292 it293 := T9_c hv79_1 (by rw [em_lg292]; exact setU_row (by decide)) (by rw [em_lg292]; exact setU_row (by decide)) (by rw [em_it293]; exact setO_row (by decide)) (by rw [em_it293]; exact setO_c (by decide))
                  have PW302 : W9 lg292 it293 := W9_c hv79_2 (by rw [em_lg292]; exact setU_c (by decide) (by decide)) (by rw [em_it293]; exact setO_c (by decide)) (by rw [em_it293]; exact setO_c (by decide))
                  have f303 : 0 ≤ (it293 489 0).toInt ∧ (it293 489 0).toInt ≤ 6 := i9_f hI297 (j := 489) (k := 0) rfl
                  try have f304 : (((it293 489 0) - 1) : Int32).toInt = ((it293 489 0)).toInt - 1 := sb32 (a := ((it293 489 0)).toInt) (b := 1) (rfl) (ti_1) (by omega) (by omega)
                  have hi305 : vp_in ((it293 489 0) - 1) 6 := vp_of (by first | omega | ((try simp only [Int32.lt_iff_toInt_lt, Int32.le_iff_toInt_le, ← Int32.toInt_inj, Int32.toInt_toInt64, ti_m14, ti_m13, ti_m12, ti_m11, ti_m10, ti_m9, ti_m6, ti_m5, ti_m4, ti_m3, ti_m2, ti_m1, ti_0, ti_1, ti_2, ti_3, ti_4, ti_5, ti_6, ti_7, ti_8, ti_9, ti_10, ti_11, ti_12, ti_19, ti_20, ti_21, ti_44, ti_45, ti_48, ti_57, ti_59, ti_60, ti_98, ti_99, ti_100, ti_101, ti_103, ti_108, ti_110, ti_114, ti_127]); omega) | (split <;> omega)) (by first | omega | ((try simp only [Int32.lt_iff_toInt_lt, Int32.le_iff_toInt_le, ← Int32.toInt_inj, Int32.toInt_toInt64, ti_m14, ti_m13, ti_m12, ti_m11, ti_m10, ti_m9, ti_m6, ti_m5, ti_m4, ti_m3, ti_m2, ti_m1, ti_0, ti_1, ti_2, ti_3, ti_4, ti_5, ti_6, ti_7, ti_8, ti_9, ti_10, ti_11, ti_12, ti_19, ti_20, ti_21, ti_44, ti_45, ti_48, ti_57, ti_59, ti_60, ti_98, ti_99, ti_100, ti_101, ti_103, ti_108, ti_110, ti_114, ti_127]); omega) | (split <;> omega))
                  refine ⟨hi305, ?_⟩
                  have hz306 := vlt hi305
                  try have f307 : (((it293 489 0) - 1) : Int32).toInt = ((it293 489 0)).toInt - 1 := sb32 (a := ((it293 489 0)).toInt) (b := 1) (rfl) (ti_1) (by omega) (by omega)
                  have hi308 : vp_in ((it293 489 0) - 1) 6 := vp_of (by first | omega | ((try simp only [Int32.lt_iff_toInt_lt, Int32.le_iff_toInt_le, ← Int32.toInt_inj, Int32.toInt_toInt64, ti_m14, ti_m13, ti_m12, ti_m11, ti_m10, ti_m9, ti_m6, ti_m5, ti_m4, ti_m3, ti_m2, ti_m1, ti_0, ti_1, ti_2, ti_3, ti_4, ti_5, ti_6, ti_7, ti_8, ti_9, ti_10, ti_11, ti_12, ti_19, ti_20, ti_21, ti_44, ti_45, ti_48, ti_57, ti_59, ti_60, ti_98, ti_99, ti_100, ti_101, ti_103, ti_108, ti_110, ti_114, ti_127]); omega) | (split <;> omega)) (by first | omega | ((try simp only [Int32.lt_iff_toInt_lt, Int32.le_iff_toInt_le, ← Int32.toInt_inj, Int32.toInt_toInt64, ti_m14, ti_m13, ti_m12, ti_m11, ti_m10, ti_m9, ti_m6, ti_m5, ti_m4, ti_m3, ti_m2, ti_m1, ti_0, ti_1, ti_2, ti_3, ti_4, ti_5, ti_6, ti_7, ti_8, ti_9, ti_10, ti_11, ti_12, ti_19, ti_20, ti_21, ti_44, ti_45, ti_48, ti_57, ti_59, ti_60, ti_98, ti_99, ti_100, ti_101, ti_103, ti_108, ti_110, ti_114, ti_127]); omega) | (split <;> omega))
                  refine ⟨hi308, ?_⟩
                  have hz309 := vlt hi308
                  have hc313 : o01 it293 := i9_o hI297
                  refine ⟨hc313, ?_⟩
                  have hc314 : ¬ (lg292 489 19) = 0 := by assumption
                  refine ⟨hc314, ?_⟩
                  have hc315 : (¬ (lg292 504 ((it293 489 0) - 1).toNatClampNeg) = 0) ∨ (¬ it293 489 20 = 0) := by first | assumption | exact Or.inl (by assumption) | exact Or.inl (pos_ne (by assumption)) | exact Or.inl (pos_ne (Int64.not_le.mp (by assumption))) | (rw [em_lg292, setU_row (by decide), em_it293, setO_c (by decide)]; exact Or.inl (pos_ne (Int64.not_le.mp (by assumption)))) | exact Or.inl (by assumption)
                  refine ⟨hc315, ?_⟩
                  intro q310 em_q310 lg311 em_lg311 it312 em_it312
                  have hI316 : I9 lg311 it312 := by rw [em_lg311, em_it312]; exact i9_g hI297 (by rw [em_q310]; exact gB_o (i9_o hI297))
                  have hK317 : Kd (fun j => False) (fun k => k = 18 ∨ k = 19 ∨ k = 20 ∨ k = 33 ∨ k = 34 ∨ k = 35) lg0 it0 lg311 it312 := by rw [em_lg311, em_it312]; exact kd_g (by first | decide | (dsimp only; decide) | omega | (dsimp only; omega)) (by first | decide | (dsimp only; decide) | omega | (dsimp only; omega)) (by first | decide | (dsimp only; decide) | omega | (dsimp only; omega)) hK298
                  have z19_lg311 : ¬ lg311 489 19 = 0 := by rw [em_lg311, setU_19, em_q310]; exact gB_d hc314 hc315
                  have e318 : (it312 489 0).toInt = (it293 489 0).toInt := by rw [em_it312]; exact congrArg Int32.toInt (setO_c (by decide))
                  have e319 : (it312 489 32).toInt = (it293 489 32).toInt := by rw [em_it312]; exact congrArg Int32.toInt (setO_c (by decide))
                  have PT320 : T9 lg311 it312 := T9_c PT301 (by rw [em_lg311]; exact setU_row (by decide)) (by rw [em_lg311]; exact setU_row (by decide)) (by rw [em_it312]; exact setO_row (by decide)) (by rw [em_it312]; exact setO_c (by decide))
                  have PW321 : W9 lg311 it312 := W9_c PW302 (by rw [em_lg311]; exact setU_c (by decide) (by decide)) (by rw [em_it312]; exact setO_c (by decide)) (by rw [em_it312]; exact setO_c (by decide))
                  refine ⟨_, s_X9_offers  ((9 : Int32)) hI316 (z19_lg311) (PW321) (by first | omega | (simp only [Int32.lt_iff_toInt_lt, Int32.le_iff_toInt_le, ← Int32.toInt_inj, Int32.toInt_toInt64, ti_m14, ti_m13, ti_m12, ti_m11, ti_m10, ti_m9, ti_m6, ti_m5, ti_m4, ti_m3, ti_m2, ti_m1, ti_0, ti_1, ti_2, ti_3, ti_4, ti_5, ti_6, ti_7, ti_8, ti_9, ti_10, ti_11, ti_12, ti_19, ti_20, ti_21, ti_44, ti_45, ti_48, ti_57, ti_59, ti_60, ti_98, ti_99, ti_100, ti_101, ti_103, ti_108, ti_110, ti_114, ti_127] at *; omega)), ?_⟩
                  intro lg322 it323 hq
                  obtain ⟨⟨hI324, hK325⟩, ha328⟩ := hq
                  have hK326 : Kd (fun j => False) (fun k => k = 18 ∨ k = 19 ∨ k = 20 ∨ k = 33 ∨ k = 34 ∨ k = 35) lg0 it0 lg322 it323 := kd_t hK317 hK325 (fun j hj => by first | omega | exact False.elim hj | (dsimp only at hj ⊢; omega)) (fun j hj => by first | omega | exact False.elim hj | (dsimp only at hj ⊢; omega))
                  try have e329 : (it323 489 0).toInt = (it312 489 0).toInt := congrArg Int32.toInt (hK325.2 0 (by first | decide | (dsimp only; decide) | omega | (dsimp only; omega))).2
                  try have e330 : (it323 489 32).toInt = (it312 489 32).toInt := congrArg Int32.toInt (hK325.2 32 (by first | decide | (dsimp only; decide) | omega | (dsimp only; omega))).2
                  have PT331 : T9 lg322 it323 := T9_c PT320 (hK325.1 503 (by decide) (by first | decide | (dsimp only; decide) | omega | (dsimp only; omega))).1 (hK325.1 505 (by decide) (by first | decide | (dsimp only; decide) | omega | (dsimp only; omega))).1 (hK325.1 501 (by decide) (by first | decide | (dsimp only; decide) | omega | (dsimp only; omega))).2 (hK325.2 0 (by first | decide | (dsimp only; decide) | omega | (dsimp only; omega))).2
                  subst hp
                  exact ⟨⟨hI324, hK326⟩, ⟨rfl, ha328⟩⟩
          · try simp only [Int32.lt_iff_toInt_lt, Int32.le_iff_toInt_le, ← Int32.toInt_inj, Int32.toInt_toInt64, ti_m14, ti_m13, ti_m12, ti_m11, ti_m10, ti_m9, ti_m6, ti_m5, ti_m4, ti_m3, ti_m2, ti_m1, ti_0, ti_1, ti_2, ti_3, ti_4, ti_5, ti_6, ti_7, ti_8, ti_9, ti_10, ti_11, ti_12, ti_19, ti_20, ti_21, ti_44, ti_45, ti_48, ti_57, ti_59, ti_60, ti_98, ti_99, ti_100, ti_101, ti_103, ti_108, ti_110, ti_114, ti_127] at c86
            have hi332 : vp_in x1 6 := vp_of (by first | omega | ((try simp only [Int32.lt_iff_toInt_lt, Int32.le_iff_toInt_le, ← Int32.toInt_inj, Int32.toInt_toInt64, ti_m14, ti_m13, ti_m12, ti_m11, ti_m10, ti_m9, ti_m6, ti_m5, ti_m4, ti_m3, ti_m2, ti_m1, ti_0, ti_1, ti_2, ti_3, ti_4, ti_5, ti_6, ti_7, ti_8, ti_9, ti_10, ti_11, ti_12, ti_19, ti_20, ti_21, ti_44, ti_45, ti_48, ti_57, ti_59, ti_60, ti_98, ti_99, ti_100, ti_101, ti_103, ti_108, ti_110, ti_114, ti_127]); omega) | (split <;> omega)) (by first | omega | ((try simp only [Int32.lt_iff_toInt_lt, Int32.le_iff_toInt_le, ← Int32.toInt_inj, Int32.toInt_toInt64, ti_m14, ti_m13, ti_m12, ti_m11, ti_m10, ti_m9, ti_m6, ti_m5, ti_m4, ti_m3, ti_m2, ti_m1, ti_0, ti_1, ti_2, ti_3, ti_4, ti_5, ti_6, ti_7, ti_8, ti_9, ti_10, ti_11, ti_12, ti_19, ti_20, ti_21, ti_44, ti_45, ti_48, ti_57, ti_59, ti_60, ti_98, ti_99, ti_100, ti_101, ti_103, ti_108, ti_110, ti_114, ti_127]); omega) | (split <;> omega))
            refine ⟨hi332, ?_⟩
            have hz333 := vlt hi332
            have hi334 : vp_in x1 6 := vp_of (by first | omega | ((try simp only [Int32.lt_iff_toInt_lt, Int32.le_iff_toInt_le, ← Int32.toInt_inj, Int32.toInt_toInt64, ti_m14, ti_m13, ti_m12, ti_m11, ti_m10, ti_m9, ti_m6, ti_m5, ti_m4, ti_m3, ti_m2, ti_m1, ti_0, ti_1, ti_2, ti_3, ti_4, ti_5, ti_6, ti_7, ti_8, ti_9, ti_10, ti_11, ti_12, ti_19, ti_20, ti_21, ti_44, ti_45, ti_48, ti_57, ti_59, ti_60, ti_98, ti_99, ti_100, ti_101, ti_103, ti_108, ti_110, ti_114, ti_127]); omega) | (split <;> omega)) (by first | omega | ((try simp only [Int32.lt_iff_toInt_lt, Int32.le_iff_toInt_le, ← Int32.toInt_inj, Int32.toInt_toInt64, ti_m14, ti_m13, ti_m12, ti_m11, ti_m10, ti_m9, ti_m6, ti_m5, ti_m4, ti_m3, ti_m2, ti_m1, ti_0, ti_1, ti_2, ti_3, ti_4, ti_5, ti_6, ti_7, ti_8, ti_9, ti_10, ti_11, ti_12, ti_19, ti_20, ti_21, ti_44, ti_45, ti_48, ti_57, ti_59, ti_60, ti_98, ti_99, ti_100, ti_101, ti_103, ti_108, ti_110, ti_114, ti_127]); omega) | (split <;> omega))
            refine ⟨hi334, ?_⟩
            have hz335 := vlt hi334
            try have f336 : ((x1 + 1) : Int32).toInt = (x1).toInt + 1 := ad32 (a := (x1).toInt) (b := 1) (rfl) (ti_1) (by omega) (by omega)
            have hi337 : vp_in (x1 + 1) 6 := vp_of (by first | omega | ((try simp only [Int32.lt_iff_toInt_lt, Int32.le_iff_toInt_le, ← Int32.toInt_inj, Int32.toInt_toInt64, ti_m14, ti_m13, ti_m12, ti_m11, ti_m10, ti_m9, ti_m6, ti_m5, ti_m4, ti_m3, ti_m2, ti_m1, ti_0, ti_1, ti_2, ti_3, ti_4, ti_5, ti_6, ti_7, ti_8, ti_9, ti_10, ti_11, ti_12, ti_19, ti_20, ti_21, ti_44, ti_45, ti_48, ti_57, ti_59, ti_60, ti_98, ti_99, ti_100, ti_101, ti_103, ti_108, ti_110, ti_114, ti_127]); omega) | (split <;> omega)) (by first | omega | ((try simp only [Int32.lt_iff_toInt_lt, Int32.le_iff_toInt_le, ← Int32.toInt_inj, Int32.toInt_toInt64, ti_m14, ti_m13, ti_m12, ti_m11, ti_m10, ti_m9, ti_m6, ti_m5, ti_m4, ti_m3, ti_m2, ti_m1, ti_0, ti_1, ti_2, ti_3, ti_4, ti_5, ti_6, ti_7, ti_8, ti_9, ti_10, ti_11, ti_12, ti_19, ti_20, ti_21, ti_44, ti_45, ti_48, ti_57, ti_59, ti_60, ti_98, ti_99, ti_100, ti_101, ti_103, ti_108, ti_110, ti_114, ti_127]); omega) | (split <;> omega))
            refine ⟨hi337, ?_⟩
            have hz338 := vlt hi337
            try have f339 : ((x1 + 1) : Int32).toInt = (x1).toInt + 1 := ad32 (a := (x1).toInt) (b := 1) (rfl) (ti_1) (by omega) (by omega)
            have hi340 : vp_in (x1 + 1) 6 := vp_of (by first | omega | ((try simp only [Int32.lt_iff_toInt_lt, Int32.le_iff_toInt_le, ← Int32.toInt_inj, Int32.toInt_toInt64, ti_m14, ti_m13, ti_m12, ti_m11, ti_m10, ti_m9, ti_m6, ti_m5, ti_m4, ti_m3, ti_m2, ti_m1, ti_0, ti_1, ti_2, ti_3, ti_4, ti_5, ti_6, ti_7, ti_8, ti_9, ti_10, ti_11, ti_12, ti_19, ti_20, ti_21, ti_44, ti_45, ti_48, ti_57, ti_59, ti_60, ti_98, ti_99, ti_100, ti_101, ti_103, ti_108, ti_110, ti_114, ti_127]); omega) | (split <;> omega)) (by first | omega | ((try simp only [Int32.lt_iff_toInt_lt, Int32.le_iff_toInt_le, ← Int32.toInt_inj, Int32.toInt_toInt64, ti_m14, ti_m13, ti_m12, ti_m11, ti_m10, ti_m9, ti_m6, ti_m5, ti_m4, ti_m3, ti_m2, ti_m1, ti_0, ti_1, ti_2, ti_3, ti_4, ti_5, ti_6, ti_7, ti_8, ti_9, ti_10, ti_11, ti_12, ti_19, ti_20, ti_21, ti_44, ti_45, ti_48, ti_57, ti_59, ti_60, ti_98, ti_99, ti_100, ti_101, ti_103, ti_108, ti_110, ti_114, ti_127]); omega) | (split <;> omega))
            refine ⟨hi340, ?_⟩
            have hz341 := vlt hi340
            have hc345 : o01 it279 := i9_o hI276
            refine ⟨hc345, ?_⟩
            have hc346 : ¬ (lg278 505 x1.toNatClampNeg) = 0 := (hv79_1 (x1).toNatClampNeg (by have z1 := cl32 (i := x1) (by omega); omega) (by have z1 := cl32 (i := x1) (by omega); omega)).1.2
            refine ⟨hc346, ?_⟩
            have hc347 : ¬ (lg278 505 (x1 + 1).toNatClampNeg) = 0 := (hv79_1 ((x1 + 1)).toNatClampNeg (by have z1 := cl32 (i := (x1 + 1)) (by omega); omega) (by have z1 := cl32 (i := (x1 + 1)) (by omega); omega)).1.2
            refine ⟨hc347, ?_⟩
            intro q342 em_q342 lg343 em_lg343 it344 em_it344
            have hI348 : I9 lg343 it344 := by rw [em_lg343, em_it344]; exact i9_g hI276 (by rw [em_q342]; exact gL_o (i9_o hI276))
            have hK349 : Kd (fun j => False) (fun k => k = 18 ∨ k = 19 ∨ k = 20 ∨ k = 33 ∨ k = 34 ∨ k = 35) lg0 it0 lg343 it344 := by rw [em_lg343, em_it344]; exact kd_g (by first | decide | (dsimp only; decide) | omega | (dsimp only; omega)) (by first | decide | (dsimp only; decide) | omega | (dsimp only; omega)) (by first | decide | (dsimp only; decide) | omega | (dsimp only; omega)) hK277
            have z19_lg343 : ¬ lg343 489 19 = 0 := by rw [em_lg343, setU_19, em_q342]; exact gL_d hc346 hc347
            have e350 : (it344 489 0).toInt = (it279 489 0).toInt := by rw [em_it344]; exact congrArg Int32.toInt (setO_c (by decide))
            have PT351 : T9 lg343 it344 := T9_c hv79_1 (by rw [em_lg343]; exact setU_row (by decide)) (by rw [em_lg343]; exact setU_row (by decide)) (by rw [em_it344]; exact setO_row (by decide)) (by rw [em_it344]; exact setO_c (by decide))
            have PW352 : W9 lg343 it344 := W9_c hv79_2 (by rw [em_lg343]; exact setU_c (by decide) (by decide)) (by rw [em_it344]; exact setO_c (by decide)) (by rw [em_it344]; exact setO_c (by decide))
            refine ⟨fun c127 => ?_, fun c127 => ?_⟩
            · try simp only [Int32.lt_iff_toInt_lt, Int32.le_iff_toInt_le, ← Int32.toInt_inj, Int32.toInt_toInt64, ti_m14, ti_m13, ti_m12, ti_m11, ti_m10, ti_m9, ti_m6, ti_m5, ti_m4, ti_m3, ti_m2, ti_m1, ti_0, ti_1, ti_2, ti_3, ti_4, ti_5, ti_6, ti_7, ti_8, ti_9, ti_10, ti_11, ti_12, ti_19, ti_20, ti_21, ti_44, ti_45, ti_48, ti_57, ti_59, ti_60, ti_98, ti_99, ti_100, ti_101, ti_103, ti_108, ti_110, ti_114, ti_127] at c127
              try have f353 : ((x1 + 1) : Int32).toInt = (x1).toInt + 1 := ad32 (a := (x1).toInt) (b := 1) (rfl) (ti_1) (by omega) (by omega)
              have hi354 : vp_in (x1 + 1) 6 := vp_of (by first | omega | ((try simp only [Int32.lt_iff_toInt_lt, Int32.le_iff_toInt_le, ← Int32.toInt_inj, Int32.toInt_toInt64, ti_m14, ti_m13, ti_m12, ti_m11, ti_m10, ti_m9, ti_m6, ti_m5, ti_m4, ti_m3, ti_m2, ti_m1, ti_0, ti_1, ti_2, ti_3, ti_4, ti_5, ti_6, ti_7, ti_8, ti_9, ti_10, ti_11, ti_12, ti_19, ti_20, ti_21, ti_44, ti_45, ti_48, ti_57, ti_59, ti_60, ti_98, ti_99, ti_100, ti_101, ti_103, ti_108, ti_110, ti_114, ti_127]); omega) | (split <;> omega)) (by first | omega | ((try simp only [Int32.lt_iff_toInt_lt, Int32.le_iff_toInt_le, ← Int32.toInt_inj, Int32.toInt_toInt64, ti_m14, ti_m13, ti_m12, ti_m11, ti_m10, ti_m9, ti_m6, ti_m5, ti_m4, ti_m3, ti_m2, ti_m1, ti_0, ti_1, ti_2, ti_3, ti_4, ti_5, ti_6, ti_7, ti_8, ti_9, ti_10, ti_11, ti_12, ti_19, ti_20, ti_21, ti_44, ti_45, ti_48, ti_57, ti_59, ti_60, ti_98, ti_99, ti_100, ti_101, ti_103, ti_108, ti_110, ti_114, ti_127]); omega) | (split <;> omega))
              refine ⟨hi354, ?_⟩
              have hz355 := vlt hi354
              try have f356 : ((x1 + 1) : Int32).toInt = (x1).toInt + 1 := ad32 (a := (x1).toInt) (b := 1) (rfl) (ti_1) (by omega) (by omega)
              have hi357 : vp_in (x1 + 1) 6 := vp_of (by first | omega | ((try simp only [Int32.lt_iff_toInt_lt, Int32.le_iff_toInt_le, ← Int32.toInt_inj, Int32.toInt_toInt64, ti_m14, ti_m13, ti_m12, ti_m11, ti_m10, ti_m9, ti_m6, ti_m5, ti_m4, ti_m3, ti_m2, ti_m1, ti_0, ti_1, ti_2, ti_3, ti_4, ti_5, ti_6, ti_7, ti_8, ti_9, ti_10, ti_11, ti_12, ti_19, ti_20, ti_21, ti_44, ti_45, ti_48, ti_57, ti_59, ti_60, ti_98, ti_99, ti_100, ti_101, ti_103, ti_108, ti_110, ti_114, ti_127]); omega) | (split <;> omega)) (by first | omega | ((try simp only [Int32.lt_iff_toInt_lt, Int32.le_iff_toInt_le, ← Int32.toInt_inj, Int32.toInt_toInt64, ti_m14, ti_m13, ti_m12, ti_m11, ti_m10, ti_m9, ti_m6, ti_m5, ti_m4, ti_m3, ti_m2, ti_m1, ti_0, ti_1, ti_2, ti_3, ti_4, ti_5, ti_6, ti_7, ti_8, ti_9, ti_10, ti_11, ti_12, ti_19, ti_20, ti_21, ti_44, ti_45, ti_48, ti_57, ti_59, ti_60, ti_98, ti_99, ti_100, ti_101, ti_103, ti_108, ti_110, ti_114, ti_127]); omega) | (split <;> omega))
              refine ⟨hi357, ?_⟩
              have hz358 := vlt hi357
              have hi359 : vp_in x1 6 := vp_of (by first | omega | ((try simp only [Int32.lt_iff_toInt_lt, Int32.le_iff_toInt_le, ← Int32.toInt_inj, Int32.toInt_toInt64, ti_m14, ti_m13, ti_m12, ti_m11, ti_m10, ti_m9, ti_m6, ti_m5, ti_m4, ti_m3, ti_m2, ti_m1, ti_0, ti_1, ti_2, ti_3, ti_4, ti_5, ti_6, ti_7, ti_8, ti_9, ti_10, ti_11, ti_12, ti_19, ti_20, ti_21, ti_44, ti_45, ti_48, ti_57, ti_59, ti_60, ti_98, ti_99, ti_100, ti_101, ti_103, ti_108, ti_110, ti_114, ti_127]); omega) | (split <;> omega)) (by first | omega | ((try simp only [Int32.lt_iff_toInt_lt, Int32.le_iff_toInt_le, ← Int32.toInt_inj, Int32.toInt_toInt64, ti_m14, ti_m13, ti_m12, ti_m11, ti_m10, ti_m9, ti_m6, ti_m5, ti_m4, ti_m3, ti_m2, ti_m1, ti_0, ti_1, ti_2, ti_3, ti_4, ti_5, ti_6, ti_7, ti_8, ti_9, ti_10, ti_11, ti_12, ti_19, ti_20, ti_21, ti_44, ti_45, ti_48, ti_57, ti_59, ti_60, ti_98, ti_99, ti_100, ti_101, ti_103, ti_108, ti_110, ti_114, ti_127]); omega) | (split <;> omega))
              refine ⟨hi359, ?_⟩
              have hz360 := vlt hi359
              have hi361 : vp_in x1 6 := vp_of (by first | omega | ((try simp only [Int32.lt_iff_toInt_lt, Int32.le_iff_toInt_le, ← Int32.toInt_inj, Int32.toInt_toInt64, ti_m14, ti_m13, ti_m12, ti_m11, ti_m10, ti_m9, ti_m6, ti_m5, ti_m4, ti_m3, ti_m2, ti_m1, ti_0, ti_1, ti_2, ti_3, ti_4, ti_5, ti_6, ti_7, ti_8, ti_9, ti_10, ti_11, ti_12, ti_19, ti_20, ti_21, ti_44, ti_45, ti_48, ti_57, ti_59, ti_60, ti_98, ti_99, ti_100, ti_101, ti_103, ti_108, ti_110, ti_114, ti_127]); omega) | (split <;> omega)) (by first | omega | ((try simp only [Int32.lt_iff_toInt_lt, Int32.le_iff_toInt_le, ← Int32.toInt_inj, Int32.toInt_toInt64, ti_m14, ti_m13, ti_m12, ti_m11, ti_m10, ti_m9, ti_m6, ti_m5, ti_m4, ti_m3, ti_m2, ti_m1, ti_0, ti_1, ti_2, ti_3, ti_4, ti_5, ti_6, ti_7, ti_8, ti_9, ti_10, ti_11, ti_12, ti_19, ti_20, ti_21, ti_44, ti_45, ti_48, ti_57, ti_59, ti_60, ti_98, ti_99, ti_100, ti_101, ti_103, ti_108, ti_110, ti_114, ti_127]); omega) | (split <;> omega))
              refine ⟨hi361, ?_⟩
              have hz362 := vlt hi361
              have hc366 : o01 it344 := i9_o hI348
              refine ⟨hc366, ?_⟩
              have hc367 : ¬ (lg343 503 (x1 + 1).toNatClampNeg) = 0 := (PT351 ((x1 + 1)).toNatClampNeg (by have z1 := cl32 (i := (x1 + 1)) (by omega); omega) (by have z1 := cl32 (i := (x1 + 1)) (by omega); omega)).1.1
              refine ⟨hc367, ?_⟩
              have hc368 : ¬ (lg343 503 x1.toNatClampNeg) = 0 := (PT351 (x1).toNatClampNeg (by have z1 := cl32 (i := x1) (by omega); omega) (by have z1 := cl32 (i := x1) (by omega); omega)).1.1
              refine ⟨hc368, ?_⟩
              intro q363 em_q363 lg364 em_lg364 it365 em_it365
              have hI369 : I9 lg364 it365 := by rw [em_lg364, em_it365]; exact i9_g hI348 (by rw [em_q363]; exact gL_o (i9_o hI348))
              have hK370 : Kd (fun j => False) (fun k => k = 18 ∨ k = 19 ∨ k = 20 ∨ k = 33 ∨ k = 34 ∨ k = 35) lg0 it0 lg364 it365 := by rw [em_lg364, em_it365]; exact kd_g (by first | decide | (dsimp only; decide) | omega | (dsimp only; omega)) (by first | decide | (dsimp only; decide) | omega | (dsimp only; omega)) (by first | decide | (dsimp only; decide) | omega | (dsimp only; omega)) hK349
              have z19_lg364 : ¬ lg364 489 19 = 0 := by rw [em_lg364, setU_19, em_q363]; exact gL_d hc367 hc368
              have e371 : (it365 489 0).toInt = (it344 489 0).toInt := by rw [em_it365]; exact congrArg Int32.toInt (setO_c (by decide))
              have PT372 : T9 lg364 it365 := T9_c PT351 (by rw [em_lg364]; exact setU_row (by decide)) (by rw [em_lg364]; exact setU_row (by decide)) (by rw [em_it365]; exact setO_row (by decide)) (by rw [em_it365]; exact setO_c (by decide))
              have PW373 : W9 lg364 it365 := W9_c PW352 (by rw [em_lg364]; exact setU_c (by decide) (by decide)) (by rw [em_it365]; exact setO_c (by decide)) (by rw [em_it365]; exact setO_c (by decide))
              have hc377 : o01 it365 := i9_o hI369
              refine ⟨hc377, ?_⟩
              have hc378 : ¬ (lg364 489 19) = 0 := by assumption
              refine ⟨hc378, ?_⟩
              have hc379 : (¬ (lg343 489 18) = 0) ∨ (¬ it365 489 20 = 0) := by first | assumption | exact Or.inl (by assumption) | exact Or.inl (pos_ne (by assumption)) | exact Or.inl (pos_ne (Int64.not_le.mp (by assumption))) | (rw [em_lg364, setU_row (by decide), em_it365, setO_c (by decide)]; exact Or.inl (pos_ne (Int64.not_le.mp (by assumption)))) | exact Or.inl (by assumption)
              refine ⟨hc379, ?_⟩
              intro q374 em_q374 lg375 em_lg375 it376 em_it376
              have hI380 : I9 lg375 it376 := by rw [em_lg375, em_it376]; exact i9_g hI369 (by rw [em_q374]; exact gB_o (i9_o hI369))
              have hK381 : Kd (fun j => False) (fun k => k = 18 ∨ k = 19 ∨ k = 20 ∨ k = 33 ∨ k = 34 ∨ k = 35) lg0 it0 lg375 it376 := by rw [em_lg375, em_it376]; exact kd_g (by first | decide | (dsimp only; decide) | omega | (dsimp only; omega)) (by first | decide | (dsimp only; decide) | omega | (dsimp only; omega)) (by first | decide | (dsimp only; decide) | omega | (dsimp only; omega)) hK370
              have z19_lg375 : ¬ lg375 489 19 = 0 := by rw [em_lg375, setU_19, em_q374]; exact gB_d hc378 hc379
              have e382 : (it376 489 0).toInt = (it365 489 0).toInt := by rw [em_it376]; exact congrArg Int32.toInt (setO_c (by decide))
              have PT383 : T9 lg375 it376 := T9_c PT372 (by rw [em_lg375]; exact setU_row (by decide)) (by rw [em_lg375]; exact setU_row (by decide)) (by rw [em_it376]; exact setO_row (by decide)) (by rw [em_it376]; exact setO_c (by decide))
              have PW384 : W9 lg375 it376 := W9_c PW373 (by rw [em_lg375]; exact setU_c (by decide) (by decide)) (by rw [em_it376]; exact setO_c (by decide)) (by rw [em_it376]; exact setO_c (by decide))
              try have f385 : ((x1 + 1) : Int32).toInt = (x1).toInt + 1 := ad32 (a := (x1).toInt) (b := 1) (rfl) (ti_1) (by omega) (by omega)
              refine ⟨_, s_X9_offers  ((x1 + 1)) hI380 (z19_lg375) (PW384) (by first | omega | (simp only [Int32.lt_iff_toInt_lt, Int32.le_iff_toInt_le, ← Int32.toInt_inj, Int32.toInt_toInt64, ti_m14, ti_m13, ti_m12, ti_m11, ti_m10, ti_m9, ti_m6, ti_m5, ti_m4, ti_m3, ti_m2, ti_m1, ti_0, ti_1, ti_2, ti_3, ti_4, ti_5, ti_6, ti_7, ti_8, ti_9, ti_10, ti_11, ti_12, ti_19, ti_20, ti_21, ti_44, ti_45, ti_48, ti_57, ti_59, ti_60, ti_98, ti_99, ti_100, ti_101, ti_103, ti_108, ti_110, ti_114, ti_127] at *; omega)), ?_⟩
              intro lg386 it387 hq
              obtain ⟨⟨hI388, hK389⟩, ha392⟩ := hq
              have hK390 : Kd (fun j => False) (fun k => k = 18 ∨ k = 19 ∨ k = 20 ∨ k = 33 ∨ k = 34 ∨ k = 35) lg0 it0 lg386 it387 := kd_t hK381 hK389 (fun j hj => by first | omega | exact False.elim hj | (dsimp only at hj ⊢; omega)) (fun j hj => by first | omega | exact False.elim hj | (dsimp only at hj ⊢; omega))
              try have e393 : (it387 489 0).toInt = (it376 489 0).toInt := congrArg Int32.toInt (hK389.2 0 (by first | decide | (dsimp only; decide) | omega | (dsimp only; omega))).2
              have PT394 : T9 lg386 it387 := T9_c PT383 (hK389.1 503 (by decide) (by first | decide | (dsimp only; decide) | omega | (dsimp only; omega))).1 (hK389.1 505 (by decide) (by first | decide | (dsimp only; decide) | omega | (dsimp only; omega))).1 (hK389.1 501 (by decide) (by first | decide | (dsimp only; decide) | omega | (dsimp only; omega))).2 (hK389.2 0 (by first | decide | (dsimp only; decide) | omega | (dsimp only; omega))).2
              try have f395 : ((x1 + 1) : Int32).toInt = (x1).toInt + 1 := ad32 (a := (x1).toInt) (b := 1) (rfl) (ti_1) (by omega) (by omega)
              exact ih79 ((x1 + 1)) _ _ hI388 hK390 (by refine ⟨?_, ?_, ?_, ?_, ?_⟩ <;> first | exact Nx_0 | omega | assumption | exact Or.inl rfl | exact Or.inr rfl | exact i8_1 (by assumption) (by assumption) | decide) (by omega)
            · try simp only [Int32.lt_iff_toInt_lt, Int32.le_iff_toInt_le, ← Int32.toInt_inj, Int32.toInt_toInt64, ti_m14, ti_m13, ti_m12, ti_m11, ti_m10, ti_m9, ti_m6, ti_m5, ti_m4, ti_m3, ti_m2, ti_m1, ti_0, ti_1, ti_2, ti_3, ti_4, ti_5, ti_6, ti_7, ti_8, ti_9, ti_10, ti_11, ti_12, ti_19, ti_20, ti_21, ti_44, ti_45, ti_48, ti_57, ti_59, ti_60, ti_98, ti_99, ti_100, ti_101, ti_103, ti_108, ti_110, ti_114, ti_127] at c127
              try have f396 : ((x1 + 1) : Int32).toInt = (x1).toInt + 1 := ad32 (a := (x1).toInt) (b := 1) (rfl) (ti_1) (by omega) (by omega)
              exact ih79 ((x1 + 1)) _ _ hI348 hK349 (by refine ⟨?_, ?_, ?_, ?_, ?_⟩ <;> first | exact Nx_0 | omega | assumption | exact Or.inl rfl | exact Or.inr rfl | exact i8_1 (by assumption) (by assumption) | decide) (by omega)
      have t397 := ti_0
      exact ⟨_, lp79 ((7 - ((0 : Int32)).toInt).toNat + 1) ((0 : Int32)) _ _ hI148 hK149 (by refine ⟨?_, ?_, ?_, ?_, ?_⟩ <;> first | exact Nx_0 | omega | assumption | exact Or.inl rfl | exact Or.inr rfl | exact i8_1 (by assumption) (by assumption) | decide) (Nat.lt_succ_self _)⟩
    · try simp only [Int32.lt_iff_toInt_lt, Int32.le_iff_toInt_le, ← Int32.toInt_inj, Int32.toInt_toInt64, ti_m14, ti_m13, ti_m12, ti_m11, ti_m10, ti_m9, ti_m6, ti_m5, ti_m4, ti_m3, ti_m2, ti_m1, ti_0, ti_1, ti_2, ti_3, ti_4, ti_5, ti_6, ti_7, ti_8, ti_9, ti_10, ti_11, ti_12, ti_19, ti_20, ti_21, ti_44, ti_45, ti_48, ti_57, ti_59, ti_60, ti_98, ti_99, ti_100, ti_101, ti_103, ti_108, ti_110, ti_114, ti_127] at c16
      refine ⟨fun c27 => ?_, fun c27 => ?_⟩
      · try simp only [Int32.lt_iff_toInt_lt, Int32.le_iff_toInt_le, ← Int32.toInt_inj, Int32.toInt_toInt64, ti_m14, ti_m13, ti_m12, ti_m11, ti_m10, ti_m9, ti_m6, ti_m5, ti_m4, ti_m3, ti_m2, ti_m1, ti_0, ti_1, ti_2, ti_3, ti_4, ti_5, ti_6, ti_7, ti_8, ti_9, ti_10, ti_11, ti_12, ti_19, ti_20, ti_21, ti_44, ti_45, ti_48, ti_57, ti_59, ti_60, ti_98, ti_99, ti_100, ti_101, ti_103, ti_108, ti_110, ti_114, ti_127] at c27
        have lp79 : ∀ (n : Nat) (x1 : Int32) (lg : LGt) (it : ITt), I9 lg it → Kd (fun j => False) (fun k => k = 18 ∨ k = 19 ∨ k = 20 ∨ k = 33 ∨ k = 34 ∨ k = 35) lg0 it0 lg it → ((0 ≤ (x1).toInt) ∧ (T9 lg it) ∧ (W9 lg it) ∧ ((it 489 0).toInt = (it0 489 0).toInt) ∧ ((x1).toInt ≤ 6)) → (7 - (x1).toInt).toNat < n → w_X9_next_b79  Pz  n x1 lg it := by
          intro n79
          induction n79 with
          | zero => intro x1 lg it _ _ _ hn; exact absurd hn (Nat.not_lt_zero _)
          | succ n79 ih79 =>
            intro x1 lg400 it401 hI398 hK399 hv hn
            unfold w_X9_next_b79
            obtain ⟨hv79_0, hv79_1, hv79_2, hv79_3, hv79_4⟩ := hv
            try have f402 : ((x1 + 1) : Int32).toInt = (x1).toInt + 1 := ad32 (a := (x1).toInt) (b := 1) (rfl) (ti_1) (by omega) (by omega)
            have f403 : 0 ≤ (it401 489 0).toInt ∧ (it401 489 0).toInt ≤ 6 := i9_f hI398 (j := 489) (k := 0) rfl
            refine ⟨fun c86 => ?_, fun c86 => ?_⟩
            · try simp only [Int32.lt_iff_toInt_lt, Int32.le_iff_toInt_le, ← Int32.toInt_inj, Int32.toInt_toInt64, ti_m14, ti_m13, ti_m12, ti_m11, ti_m10, ti_m9, ti_m6, ti_m5, ti_m4, ti_m3, ti_m2, ti_m1, ti_0, ti_1, ti_2, ti_3, ti_4, ti_5, ti_6, ti_7, ti_8, ti_9, ti_10, ti_11, ti_12, ti_19, ti_20, ti_21, ti_44, ti_45, ti_48, ti_57, ti_59, ti_60, ti_98, ti_99, ti_100, ti_101, ti_103, ti_108, ti_110, ti_114, ti_127] at c86
              refine ⟨fun c208 => ?_, fun c208 => ?_⟩
              · try simp only [Int32.lt_iff_toInt_lt, Int32.le_iff_toInt_le, ← Int32.toInt_inj, Int32.toInt_toInt64, ti_m14, ti_m13, ti_m12, ti_m11, ti_m10, ti_m9, ti_m6, ti_m5, ti_m4, ti_m3, ti_m2, ti_m1, ti_0, ti_1, ti_2, ti_3, ti_4, ti_5, ti_6, ti_7, ti_8, ti_9, ti_10, ti_11, ti_12, ti_19, ti_20, ti_21, ti_44, ti_45, ti_48, ti_57, ti_59, ti_60, ti_98, ti_99, ti_100, ti_101, ti_103, ti_108, ti_110, ti_114, ti_127] at c208
                subst hp
                exact ⟨⟨hI398, hK399⟩, ⟨rfl, hv79_2⟩⟩
              · try simp only [Int32.lt_iff_toInt_lt, Int32.le_iff_toInt_le, ← Int32.toInt_inj, Int32.toInt_toInt64, ti_m14, ti_m13, ti_m12, ti_m11, ti_m10, ti_m9, ti_m6, ti_m5, ti_m4, ti_m3, ti_m2, ti_m1, ti_0, ti_1, ti_2, ti_3, ti_4, ti_5, ti_6, ti_7, ti_8, ti_9, ti_10, ti_11, ti_12, ti_19, ti_20, ti_21, ti_44, ti_45, ti_48, ti_57, ti_59, ti_60, ti_98, ti_99, ti_100, ti_101, ti_103, ti_108, ti_110, ti_114, ti_127] at c208
                refine ⟨fun c215 => ?_, fun c215 => ?_⟩
                · try simp only [Int32.lt_iff_toInt_lt, Int32.le_iff_toInt_le, ← Int32.toInt_inj, Int32.toInt_toInt64, ti_m14, ti_m13, ti_m12, ti_m11, ti_m10, ti_m9, ti_m6, ti_m5, ti_m4, ti_m3, ti_m2, ti_m1, ti_0, ti_1, ti_2, ti_3, ti_4, ti_5, ti_6, ti_7, ti_8, ti_9, ti_10, ti_11, ti_12, ti_19, ti_20, ti_21, ti_44, ti_45, ti_48, ti_57, ti_59, ti_60, ti_98, ti_99, ti_100, ti_101, ti_103, ti_108, ti_110, ti_114, ti_127] at c215
                  subst hp
                  exact ⟨⟨hI398, hK399⟩, ⟨rfl, hv79_2⟩⟩
                · try simp only [Int32.lt_iff_toInt_lt, Int32.le_iff_toInt_le, ← Int32.toInt_inj, Int32.toInt_toInt64, ti_m14, ti_m13, ti_m12, ti_m11, ti_m10, ti_m9, ti_m6, ti_m5, ti_m4, ti_m3, ti_m2, ti_m1, ti_0, ti_1, ti_2, ti_3, ti_4, ti_5, ti_6, ti_7, ti_8, ti_9, ti_10, ti_11, ti_12, ti_19, ti_20, ti_21, ti_44, ti_45, ti_48, ti_57, ti_59, ti_60, ti_98, ti_99, ti_100, ti_101, ti_103, ti_108, ti_110, ti_114, ti_127] at c215
                  try have f404 : (((it401 489 0) - 1) : Int32).toInt = ((it401 489 0)).toInt - 1 := sb32 (a := ((it401 489 0)).toInt) (b := 1) (rfl) (ti_1) (by omega) (by omega)
                  have hi405 : vp_in ((it401 489 0) - 1) 6 := vp_of (by first | omega | ((try simp only [Int32.lt_iff_toInt_lt, Int32.le_iff_toInt_le, ← Int32.toInt_inj, Int32.toInt_toInt64, ti_m14, ti_m13, ti_m12, ti_m11, ti_m10, ti_m9, ti_m6, ti_m5, ti_m4, ti_m3, ti_m2, ti_m1, ti_0, ti_1, ti_2, ti_3, ti_4, ti_5, ti_6, ti_7, ti_8, ti_9, ti_10, ti_11, ti_12, ti_19, ti_20, ti_21, ti_44, ti_45, ti_48, ti_57, ti_59, ti_60, ti_98, ti_99, ti_100, ti_101, ti_103, ti_108, ti_110, ti_114, ti_127]); omega) | (split <;> omega)) (by first | omega | ((try simp only [Int32.lt_iff_toInt_lt, Int32.le_iff_toInt_le, ← Int32.toInt_inj, Int32.toInt_toInt64, ti_m14, ti_m13, ti_m12, ti_m11, ti_m10, ti_m9, ti_m6, ti_m5, ti_m4, ti_m3, ti_m2, ti_m1, ti_0, ti_1, ti_2, ti_3, ti_4, ti_5, ti_6, ti_7, ti_8, ti_9, ti_10, ti_11, ti_12, ti_19, ti_20, ti_21, ti_44, ti_45, ti_48, ti_57, ti_59, ti_60, ti_98, ti_99, ti_100, ti_101, ti_103, ti_108, ti_110, ti_114, ti_127]); omega) | (split <;> omega))
                  refine ⟨hi405, ?_⟩
                  have hz406 := vlt hi405
                  refine ⟨fun c231 => ?_, fun c231 => ?_⟩
                  · try simp only [Int32.lt_iff_toInt_lt, Int32.le_iff_toInt_le, ← Int32.toInt_inj, Int32.toInt_toInt64, ti_m14, ti_m13, ti_m12, ti_m11, ti_m10, ti_m9, ti_m6, ti_m5, ti_m4, ti_m3, ti_m2, ti_m1, ti_0, ti_1, ti_2, ti_3, ti_4, ti_5, ti_6, ti_7, ti_8, ti_9, ti_10, ti_11, ti_12, ti_19, ti_20, ti_21, ti_44, ti_45, ti_48, ti_57, ti_59, ti_60, ti_98, ti_99, ti_100, ti_101, ti_103, ti_108, ti_110, ti_114, ti_127] at c231
                    subst hp
                    exact ⟨⟨hI398, hK399⟩, ⟨rfl, hv79_2⟩⟩
                  · try simp only [Int32.lt_iff_toInt_lt, Int32.le_iff_toInt_le, ← Int32.toInt_inj, Int32.toInt_toInt64, ti_m14, ti_m13, ti_m12, ti_m11, ti_m10, ti_m9, ti_m6, ti_m5, ti_m4, ti_m3, ti_m2, ti_m1, ti_0, ti_1, ti_2, ti_3, ti_4, ti_5, ti_6, ti_7, ti_8, ti_9, ti_10, ti_11, ti_12, ti_19, ti_20, ti_21, ti_44, ti_45, ti_48, ti_57, ti_59, ti_60, ti_98, ti_99, ti_100, ti_101, ti_103, ti_108, ti_110, ti_114, ti_127] at c231
                    try have f407 : (((it401 489 0) - 1) : Int32).toInt = ((it401 489 0)).toInt - 1 := sb32 (a := ((it401 489 0)).toInt) (b := 1) (rfl) (ti_1) (by omega) (by omega)
                    have hi408 : vp_in ((it401 489 0) - 1) 6 := vp_of (by first | omega | ((try simp only [Int32.lt_iff_toInt_lt, Int32.le_iff_toInt_le, ← Int32.toInt_inj, Int32.toInt_toInt64, ti_m14, ti_m13, ti_m12, ti_m11, ti_m10, ti_m9, ti_m6, ti_m5, ti_m4, ti_m3, ti_m2, ti_m1, ti_0, ti_1, ti_2, ti_3, ti_4, ti_5, ti_6, ti_7, ti_8, ti_9, ti_10, ti_11, ti_12, ti_19, ti_20, ti_21, ti_44, ti_45, ti_48, ti_57, ti_59, ti_60, ti_98, ti_99, ti_100, ti_101, ti_103, ti_108, ti_110, ti_114, ti_127]); omega) | (split <;> omega)) (by first | omega | ((try simp only [Int32.lt_iff_toInt_lt, Int32.le_iff_toInt_le, ← Int32.toInt_inj, Int32.toInt_toInt64, ti_m14, ti_m13, ti_m12, ti_m11, ti_m10, ti_m9, ti_m6, ti_m5, ti_m4, ti_m3, ti_m2, ti_m1, ti_0, ti_1, ti_2, ti_3, ti_4, ti_5, ti_6, ti_7, ti_8, ti_9, ti_10, ti_11, ti_12, ti_19, ti_20, ti_21, ti_44, ti_45, ti_48, ti_57, ti_59, ti_60, ti_98, ti_99, ti_100, ti_101, ti_103, ti_108, ti_110, ti_114, ti_127]); omega) | (split <;> omega))
                    refine ⟨hi408, ?_⟩
                    have hz409 := vlt hi408
                    try have f410 : (((it401 489 0) - 1) : Int32).toInt = ((it401 489 0)).toInt - 1 := sb32 (a := ((it401 489 0)).toInt) (b := 1) (rfl) (ti_1) (by omega) (by omega)
                    have hi411 : vp_in ((it401 489 0) - 1) 6 := vp_of (by first | omega | ((try simp only [Int32.lt_iff_toInt_lt, Int32.le_iff_toInt_le, ← Int32.toInt_inj, Int32.toInt_toInt64, ti_m14, ti_m13, ti_m12, ti_m11, ti_m10, ti_m9, ti_m6, ti_m5, ti_m4, ti_m3, ti_m2, ti_m1, ti_0, ti_1, ti_2, ti_3, ti_4, ti_5, ti_6, ti_7, ti_8, ti_9, ti_10, ti_11, ti_12, ti_19, ti_20, ti_21, ti_44, ti_45, ti_48, ti_57, ti_59, ti_60, ti_98, ti_99, ti_100, ti_101, ti_103, ti_108, ti_110, ti_114, ti_127]); omega) | (split <;> omega)) (by first | omega | ((try simp only [Int32.lt_iff_toInt_lt, Int32.le_iff_toInt_le, ← Int32.toInt_inj, Int32.toInt_toInt64, ti_m14, ti_m13, ti_m12, ti_m11, ti_m10, ti_m9, ti_m6, ti_m5, ti_m4, ti_m3, ti_m2, ti_m1, ti_0, ti_1, ti_2, ti_3, ti_4, ti_5, ti_6, ti_7, ti_8, ti_9, ti_10, ti_11, ti_12, ti_19, ti_20, ti_21, ti_44, ti_45, ti_48, ti_57, ti_59, ti_60, ti_98, ti_99, ti_100, ti_101, ti_103, ti_108, ti_110, ti_114, ti_127]); omega) | (split <;> omega))
                    refine ⟨hi411, ?_⟩
                    have hz412 := vlt hi411
                    have hc416 : o01 it401 := i9_o hI398
                    refine ⟨hc416, ?_⟩
                    have hc417 : ¬ (1 : Int64) = 0 := by decide
                    refine ⟨hc417, ?_⟩
                    have hc418 : ¬ (lg400 503 ((it401 489 0) - 1).toNatClampNeg) = 0 := (hv79_1 (((it401 489 0) - 1)).toNatClampNeg (by have z1 := cl32 (i := ((it401 489 0) - 1)) (by omega); omega) (by have z1 := cl32 (i := ((it401 489 0) - 1)) (by omega); omega)).1.1
                    refine ⟨hc418, ?_⟩
                    intro q413 em_q413 lg414 em_lg414 it415 em_it415
                    have hI419 : I9 lg414 it415 := by rw [em_lg414, em_it415]; exact i9_g hI398 (by rw [em_q413]; exact gL_o (i9_o hI398))
                    have hK420 : Kd (fun j => False) (fun k => k = 18 ∨ k = 19 ∨ k = 20 ∨ k = 33 ∨ k = 34 ∨ k = 35) lg0 it0 lg414 it415 := by rw [em_lg414, em_it415]; exact kd_g (by first | decide | (dsimp only; decide) | omega | (dsimp only; omega)) (by first | decide | (dsimp only; decide) | omega | (dsimp only; omega)) (by first | decide | (dsimp only; decide) | omega | (dsimp only; omega)) hK399
                    have z19_lg414 : ¬ lg414 489 19 = 0 := by rw [em_lg414, setU_19, em_q413]; exact gL_d hc417 hc418
                    have e421 : (it415 489 0).toInt = (it401 489 0).toInt := by rw [em_it415]; exact congrArg Int32.toInt (setO_c (by decide))
                    have e422 : (it415 489 32).toInt = (it401 489 32).toInt := by rw [em_it415]; exact congrArg Int32.toInt (setO_c (by decide))
                    have PT423 : T9 lg414 it415 := T9_c hv79_1 (by rw [em_lg414]; exact setU_row (by decide)) (by rw [em_lg414]; exact setU_row (by decide)) (by rw [em_it415]; exact setO_row (by decide)) (by rw [em_it415]; exact setO_c (by decide))
                    have PW424 : W9 lg414 it415 := W9_c hv79_2 (by rw [em_lg414]; exact setU_c (by decide) (by decide)) (by rw [em_it415]; exact setO_c (by decide)) (by rw [em_it415]; exact setO_c (by decide))
                    have f425 : 0 ≤ (it415 489 0).toInt ∧ (it415 489 0).toInt ≤ 6 := i9_f hI419 (j := 489) (k := 0) rfl
                    try have f426 : (((it415 489 0) - 1) : Int32).toInt = ((it415 489 0)).toInt - 1 := sb32 (a := ((it415 489 0)).toInt) (b := 1) (rfl) (ti_1) (by omega) (by omega)
                    have hi427 : vp_in ((it415 489 0) - 1) 6 := vp_of (by first | omega | ((try simp only [Int32.lt_iff_toInt_lt, Int32.le_iff_toInt_le, ← Int32.toInt_inj, Int32.toInt_toInt64, ti_m14, ti_m13, ti_m12, ti_m11, ti_m10, ti_m9, ti_m6, ti_m5, ti_m4, ti_m3, ti_m2, ti_m1, ti_0, ti_1, ti_2, ti_3, ti_4, ti_5, ti_6, ti_7, ti_8, ti_9, ti_10, ti_11, ti_12, ti_19, ti_20, ti_21, ti_44, ti_45, ti_48, ti_57, ti_59, ti_60, ti_98, ti_99, ti_100, ti_101, ti_103, ti_108, ti_110, ti_114, ti_127]); omega) | (split <;> omega)) (by first | omega | ((try simp only [Int32.lt_iff_toInt_lt, Int32.le_iff_toInt_le, ← Int32.toInt_inj, Int32.toInt_toInt64, ti_m14, ti_m13, ti_m12, ti_m11, ti_m10, ti_m9, ti_m6, ti_m5, ti_m4, ti_m3, ti_m2, ti_m1, ti_0, ti_1, ti_2, ti_3, ti_4, ti_5, ti_6, ti_7, ti_8, ti_9, ti_10, ti_11, ti_12, ti_19, ti_20, ti_21, ti_44, ti_45, ti_48, ti_57, ti_59, ti_60, ti_98, ti_99, ti_100, ti_101, ti_103, ti_108, ti_110, ti_114, ti_127]); omega) | (split <;> omega))
                    refine ⟨hi427, ?_⟩
                    have hz428 := vlt hi427
                    try have f429 : (((it415 489 0) - 1) : Int32).toInt = ((it415 489 0)).toInt - 1 := sb32 (a := ((it415 489 0)).toInt) (b := 1) (rfl) (ti_1) (by omega) (by omega)
                    have hi430 : vp_in ((it415 489 0) - 1) 6 := vp_of (by first | omega | ((try simp only [Int32.lt_iff_toInt_lt, Int32.le_iff_toInt_le, ← Int32.toInt_inj, Int32.toInt_toInt64, ti_m14, ti_m13, ti_m12, ti_m11, ti_m10, ti_m9, ti_m6, ti_m5, ti_m4, ti_m3, ti_m2, ti_m1, ti_0, ti_1, ti_2, ti_3, ti_4, ti_5, ti_6, ti_7, ti_8, ti_9, ti_10, ti_11, ti_12, ti_19, ti_20, ti_21, ti_44, ti_45, ti_48, ti_57, ti_59, ti_60, ti_98, ti_99, ti_100, ti_101, ti_103, ti_108, ti_110, ti_114, ti_127]); omega) | (split <;> omega)) (by first | omega | ((try simp only [Int32.lt_iff_toInt_lt, Int32.le_iff_toInt_le, ← Int32.toInt_inj, Int32.toInt_toInt64, ti_m14, ti_m13, ti_m12, ti_m11, ti_m10, ti_m9, ti_m6, ti_m5, ti_m4, ti_m3, ti_m2, ti_m1, ti_0, ti_1, ti_2, ti_3, ti_4, ti_5, ti_6, ti_7, ti_8, ti_9, ti_10, ti_11, ti_12, ti_19, ti_20, ti_21, ti_44, ti_45, ti_48, ti_57, ti_59, ti_60, ti_98, ti_99, ti_100, ti_101, ti_103, ti_108, ti_110, ti_114, ti_127]); omega) | (split <;> omega))
                    refine ⟨hi430, ?_⟩
                    have hz431 := vlt hi430
                    have hc435 : o01 it415 := i9_o hI419
                    refine ⟨hc435, ?_⟩
                    have hc436 : ¬ (lg414 489 19) = 0 := by assumption
                    refine ⟨hc436, ?_⟩
                    have hc437 : (¬ (lg414 504 ((it415 489 0) - 1).toNatClampNeg) = 0) ∨ (¬ it415 489 20 = 0) := by first | assumption | exact Or.inl (by assumption) | exact Or.inl (pos_ne (by assumption)) | exact Or.inl (pos_ne (Int64.not_le.mp (by assumption))) | (rw [em_lg414, setU_row (by decide), em_it415, setO_c (by decide)]; exact Or.inl (pos_ne (Int64.not_le.mp (by assumption)))) | exact Or.inl (by assumption)
                    refine ⟨hc437, ?_⟩
                    intro q432 em_q432 lg433 em_lg433 it434 em_it434
                    have hI438 : I9 lg433 it434 := by rw [em_lg433, em_it434]; exact i9_g hI419 (by rw [em_q432]; exact gB_o (i9_o hI419))
                    have hK439 : Kd (fun j => False) (fun k => k = 18 ∨ k = 19 ∨ k = 20 ∨ k = 33 ∨ k = 34 ∨ k = 35) lg0 it0 lg433 it434 := by rw [em_lg433, em_it434]; exact kd_g (by first | decide | (dsimp only; decide) | omega | (dsimp only; omega)) (by first | decide | (dsimp only; decide) | omega | (dsimp only; omega)) (by first | decide | (dsimp only; decide) | omega | (dsimp only; omega)) hK420
                    have z19_lg433 : ¬ lg433 489 19 = 0 := by rw [em_lg433, setU_19, em_q432]; exact gB_d hc436 hc437
                    have e440 : (it434 489 0).toInt = (it415 489 0).toInt := by rw [em_it434]; exact congrArg Int32.toInt (setO_c (by decide))
                    have e441 : (it434 489 32).toInt = (it415 489 32).toInt := by rw [em_it434]; exact congrArg Int32.toInt (setO_c (by decide))
                    have PT442 : T9 lg433 it434 := T9_c PT423 (by rw [em_lg433]; exact setU_row (by decide)) (by rw [em_lg433]; exact setU_row (by decide)) (by rw [em_it434]; exact setO_row (by decide)) (by rw [em_it434]; exact setO_c (by decide))
                    have PW443 : W9 lg433 it434 := W9_c PW424 (by rw [em_lg433]; exact setU_c (by decide) (by decide)) (by rw [em_it434]; exact setO_c (by decide)) (by rw [em_it434]; exact setO_c (by decide))
                    refine ⟨_, s_X9_offers  ((9 : Int32)) hI438 (z19_lg433) (PW443) (by first | omega | (simp only [Int32.lt_iff_toInt_lt, Int32.le_iff_toInt_le, ← Int32.toInt_inj, Int32.toInt_toInt64, ti_m14, ti_m13, ti_m12, ti_m11, ti_m10, ti_m9, ti_m6, ti_m5, ti_m4, ti_m3, ti_m2, ti_m1, ti_0, ti_1, ti_2, ti_3, ti_4, ti_5, ti_6, ti_7, ti_8, ti_9, ti_10, ti_11, ti_12, ti_19, ti_20, ti_21, ti_44, ti_45, ti_48, ti_57, ti_59, ti_60, ti_98, ti_99, ti_100, ti_101, ti_103, ti_108, ti_110, ti_114, ti_127] at *; omega)), ?_⟩
                    intro lg444 it445 hq
                    obtain ⟨⟨hI446, hK447⟩, ha450⟩ := hq
                    have hK448 : Kd (fun j => False) (fun k => k = 18 ∨ k = 19 ∨ k = 20 ∨ k = 33 ∨ k = 34 ∨ k = 35) lg0 it0 lg444 it445 := kd_t hK439 hK447 (fun j hj => by first | omega | exact False.elim hj | (dsimp only at hj ⊢; omega)) (fun j hj => by first | omega | exact False.elim hj | (dsimp only at hj ⊢; omega))
                    try have e451 : (it445 489 0).toInt = (it434 489 0).toInt := congrArg Int32.toInt (hK447.2 0 (by first | decide | (dsimp only; decide) | omega | (dsimp only; omega))).2
                    try have e452 : (it445 489 32).toInt = (it434 489 32).toInt := congrArg Int32.toInt (hK447.2 32 (by first | decide | (dsimp only; decide) | omega | (dsimp only; omega))).2
                    have PT453 : T9 lg444 it445 := T9_c PT442 (hK447.1 503 (by decide) (by first | decide | (dsimp only; decide) | omega | (dsimp only; omega))).1 (hK447.1 505 (by decide) (by first | decide | (dsimp only; decide) | omega | (dsimp only; omega))).1 (hK447.1 501 (by decide) (by first | decide | (dsimp only; decide) | omega | (dsimp only; omega))).2 (hK447.2 0 (by first | decide | (dsimp only; decide) | omega | (dsimp only; omega))).2
                    subst hp
                    exact ⟨⟨hI446, hK448⟩, ⟨rfl, ha450⟩⟩
            · try simp only [Int32.lt_iff_toInt_lt, Int32.le_iff_toInt_le, ← Int32.toInt_inj, Int32.toInt_toInt64, ti_m14, ti_m13, ti_m12, ti_m11, ti_m10, ti_m9, ti_m6, ti_m5, ti_m4, ti_m3, ti_m2, ti_m1, ti_0, ti_1, ti_2, ti_3, ti_4, ti_5, ti_6, ti_7, ti_8, ti_9, ti_10, ti_11, ti_12, ti_19, ti_20, ti_21, ti_44, ti_45, ti_48, ti_57, ti_59, ti_60, ti_98, ti_99, ti_100, ti_101, ti_103, ti_108, ti_110, ti_114, ti_127] at c86
              have hi454 : vp_in x1 6 := vp_of (by first | omega | ((try simp only [Int32.lt_iff_toInt_lt, Int32.le_iff_toInt_le, ← Int32.toInt_inj, Int32.toInt_toInt64, ti_m14, ti_m13, ti_m12, ti_m11, ti_m10, ti_m9, ti_m6, ti_m5, ti_m4, ti_m3, ti_m2, ti_m1, ti_0, ti_1, ti_2, ti_3, ti_4, ti_5, ti_6, ti_7, ti_8, ti_9, ti_10, ti_11, ti_12, ti_19, ti_20, ti_21, ti_44, ti_45, ti_48, ti_57, ti_59, ti_60, ti_98, ti_99, ti_100, ti_101, ti_103, ti_108, ti_110, ti_114, ti_127]); omega) | (split <;> omega)) (by first | omega | ((try simp only [Int32.lt_iff_toInt_lt, Int32.le_iff_toInt_le, ← Int32.toInt_inj, Int32.toInt_toInt64, ti_m14, ti_m13, ti_m12, ti_m11, ti_m10, ti_m9, ti_m6, ti_m5, ti_m4, ti_m3, ti_m2, ti_m1, ti_0, ti_1, ti_2, ti_3, ti_4, ti_5, ti_6, ti_7, ti_8, ti_9, ti_10, ti_11, ti_12, ti_19, ti_20, ti_21, ti_44, ti_45, ti_48, ti_57, ti_59, ti_60, ti_98, ti_99, ti_100, ti_101, ti_103, ti_108, ti_110, ti_114, ti_127]); omega) | (split <;> omega))
              refine ⟨hi454, ?_⟩
              have hz455 := vlt hi454
              have hi456 : vp_in x1 6 := vp_of (by first | omega | ((try simp only [Int32.lt_iff_toInt_lt, Int32.le_iff_toInt_le, ← Int32.toInt_inj, Int32.toInt_toInt64, ti_m14, ti_m13, ti_m12, ti_m11, ti_m10, ti_m9, ti_m6, ti_m5, ti_m4, ti_m3, ti_m2, ti_m1, ti_0, ti_1, ti_2, ti_3, ti_4, ti_5, ti_6, ti_7, ti_8, ti_9, ti_10, ti_11, ti_12, ti_19, ti_20, ti_21, ti_44, ti_45, ti_48, ti_57, ti_59, ti_60, ti_98, ti_99, ti_100, ti_101, ti_103, ti_108, ti_110, ti_114, ti_127]); omega) | (split <;> omega)) (by first | omega | ((try simp only [Int32.lt_iff_toInt_lt, Int32.le_iff_toInt_le, ← Int32.toInt_inj, Int32.toInt_toInt64, ti_m14, ti_m13, ti_m12, ti_m11, ti_m10, ti_m9, ti_m6, ti_m5, ti_m4, ti_m3, ti_m2, ti_m1, ti_0, ti_1, ti_2, ti_3, ti_4, ti_5, ti_6, ti_7, ti_8, ti_9, ti_10, ti_11, ti_12, ti_19, ti_20, ti_21, ti_44, ti_45, ti_48, ti_57, ti_59, ti_60, ti_98, ti_99, ti_100, ti_101, ti_103, ti_108, ti_110, ti_114, ti_127]); omega) | (split <;> omega))
              refine ⟨hi456, ?_⟩
              have hz457 := vlt hi456
              try have f458 : ((x1 + 1) : Int32).toInt = (x1).toInt + 1 := ad32 (a := (x1).toInt) (b := 1) (rfl) (ti_1) (by omega) (by omega)
              have hi459 : vp_in (x1 + 1) 6 := vp_of (by first | omega | ((try simp only [Int32.lt_iff_toInt_lt, Int32.le_iff_toInt_le, ← Int32.toInt_inj, Int32.toInt_toInt64, ti_m14, ti_m13, ti_m12, ti_m11, ti_m10, ti_m9, ti_m6, ti_m5, ti_m4, ti_m3, ti_m2, ti_m1, ti_0, ti_1, ti_2, ti_3, ti_4, ti_5, ti_6, ti_7, ti_8, ti_9, ti_10, ti_11, ti_12, ti_19, ti_20, ti_21, ti_44, ti_45, ti_48, ti_57, ti_59, ti_60, ti_98, ti_99, ti_100, ti_101, ti_103, ti_108, ti_110, ti_114, ti_127]); omega) | (split <;> omega)) (by first | omega | ((try simp only [Int32.lt_iff_toInt_lt, Int32.le_iff_toInt_le, ← Int32.toInt_inj, Int32.toInt_toInt64, ti_m14, ti_m13, ti_m12, ti_m11, ti_m10, ti_m9, ti_m6, ti_m5, ti_m4, ti_m3, ti_m2, ti_m1, ti_0, ti_1, ti_2, ti_3, ti_4, ti_5, ti_6, ti_7, ti_8, ti_9, ti_10, ti_11, ti_12, ti_19, ti_20, ti_21, ti_44, ti_45, ti_48, ti_57, ti_59, ti_60, ti_98, ti_99, ti_100, ti_101, ti_103, ti_108, ti_110, ti_114, ti_127]); omega) | (split <;> omega))
              refine ⟨hi459, ?_⟩
              have hz460 := vlt hi459
              try have f461 : ((x1 + 1) : Int32).toInt = (x1).toInt + 1 := ad32 (a := (x1).toInt) (b := 1) (rfl) (ti_1) (by omega) (by omega)
              have hi462 : vp_in (x1 + 1) 6 := vp_of (by first | omega | ((try simp only [Int32.lt_iff_toInt_lt, Int32.le_iff_toInt_le, ← Int32.toInt_inj, Int32.toInt_toInt64, ti_m14, ti_m13, ti_m12, ti_m11, ti_m10, ti_m9, ti_m6, ti_m5, ti_m4, ti_m3, ti_m2, ti_m1, ti_0, ti_1, ti_2, ti_3, ti_4, ti_5, ti_6, ti_7, ti_8, ti_9, ti_10, ti_11, ti_12, ti_19, ti_20, ti_21, ti_44, ti_45, ti_48, ti_57, ti_59, ti_60, ti_98, ti_99, ti_100, ti_101, ti_103, ti_108, ti_110, ti_114, ti_127]); omega) | (split <;> omega)) (by first | omega | ((try simp only [Int32.lt_iff_toInt_lt, Int32.le_iff_toInt_le, ← Int32.toInt_inj, Int32.toInt_toInt64, ti_m14, ti_m13, ti_m12, ti_m11, ti_m10, ti_m9, ti_m6, ti_m5, ti_m4, ti_m3, ti_m2, ti_m1, ti_0, ti_1, ti_2, ti_3, ti_4, ti_5, ti_6, ti_7, ti_8, ti_9, ti_10, ti_11, ti_12, ti_19, ti_20, ti_21, ti_44, ti_45, ti_48, ti_57, ti_59, ti_60, ti_98, ti_99, ti_100, ti_101, ti_103, ti_108, ti_110, ti_114, ti_127]); omega) | (split <;> omega))
              refine ⟨hi462, ?_⟩
              have hz463 := vlt hi462
              have hc467 : o01 it401 := i9_o hI398
              refine ⟨hc467, ?_⟩
              have hc468 : ¬ (lg400 505 x1.toNatClampNeg) = 0 := (hv79_1 (x1).toNatClampNeg (by have z1 := cl32 (i := x1) (by omega); omega) (by have z1 := cl32 (i := x1) (by omega); omega)).1.2
              refine ⟨hc468, ?_⟩
              have hc469 : ¬ (lg400 505 (x1 + 1).toNatClampNeg) = 0 := (hv79_1 ((x1 + 1)).toNatClampNeg (by have z1 := cl32 (i := (x1 + 1)) (by omega); omega) (by have z1 := cl32 (i := (x1 + 1)) (by omega); omega)).1.2
              refine ⟨hc469, ?_⟩
              intro q464 em_q464 lg465 em_lg465 it466 em_it466
              have hI470 : I9 lg465 it466 := by rw [em_lg465, em_it466]; exact i9_g hI398 (by rw [em_q464]; exact gL_o (i9_o hI398))
              have hK471 : Kd (fun j => False) (fun k => k = 18 ∨ k = 19 ∨ k = 20 ∨ k = 33 ∨ k = 34 ∨ k = 35) lg0 it0 lg465 it466 := by rw [em_lg465, em_it466]; exact kd_g (by first | decide | (dsimp only; decide) | omega | (dsimp only; omega)) (by first | decide | (dsimp only; decide) | omega | (dsimp only; omega)) (by first | decide | (dsimp only; decide) | omega | (dsimp only; omega)) hK399
              have z19_lg465 : ¬ lg465 489 19 = 0 := by rw [em_lg465, setU_19, em_q464]; exact gL_d hc468 hc469
              have e472 : (it466 489 0).toInt = (it401 489 0).toInt := by rw [em_it466]; exact congrArg Int32.toInt (setO_c (by decide))
              have PT473 : T9 lg465 it466 := T9_c hv79_1 (by rw [em_lg465]; exact setU_row (by decide)) (by rw [em_lg465]; exact setU_row (by decide)) (by rw [em_it466]; exact setO_row (by decide)) (by rw [em_it466]; exact setO_c (by decide))
              have PW474 : W9 lg465 it466 := W9_c hv79_2 (by rw [em_lg465]; exact setU_c (by decide) (by decide)) (by rw [em_it466]; exact setO_c (by decide)) (by rw [em_it466]; exact setO_c (by decide))
              refine ⟨fun c127 => ?_, fun c127 => ?_⟩
              · try simp only [Int32.lt_iff_toInt_lt, Int32.le_iff_toInt_le, ← Int32.toInt_inj, Int32.toInt_toInt64, ti_m14, ti_m13, ti_m12, ti_m11, ti_m10, ti_m9, ti_m6, ti_m5, ti_m4, ti_m3, ti_m2, ti_m1, ti_0, ti_1, ti_2, ti_3, ti_4, ti_5, ti_6, ti_7, ti_8, ti_9, ti_10, ti_11, ti_12, ti_19, ti_20, ti_21, ti_44, ti_45, ti_48, ti_57, ti_59, ti_60, ti_98, ti_99, ti_100, ti_101, ti_103, ti_108, ti_110, ti_114, ti_127] at c127
                try have f475 : ((x1 + 1) : Int32).toInt = (x1).toInt + 1 := ad32 (a := (x1).toInt) (b := 1) (rfl) (ti_1) (by omega) (by omega)
                have hi476 : vp_in (x1 + 1) 6 := vp_of (by first | omega | ((try simp only [Int32.lt_iff_toInt_lt, Int32.le_iff_toInt_le, ← Int32.toInt_inj, Int32.toInt_toInt64, ti_m14, ti_m13, ti_m12, ti_m11, ti_m10, ti_m9, ti_m6, ti_m5, ti_m4, ti_m3, ti_m2, ti_m1, ti_0, ti_1, ti_2, ti_3, ti_4, ti_5, ti_6, ti_7, ti_8, ti_9, ti_10, ti_11, ti_12, ti_19, ti_20, ti_21, ti_44, ti_45, ti_48, ti_57, ti_59, ti_60, ti_98, ti_99, ti_100, ti_101, ti_103, ti_108, ti_110, ti_114, ti_127]); omega) | (split <;> omega)) (by first | omega | ((try simp only [Int32.lt_iff_toInt_lt, Int32.le_iff_toInt_le, ← Int32.toInt_inj, Int32.toInt_toInt64, ti_m14, ti_m13, ti_m12, ti_m11, ti_m10, ti_m9, ti_m6, ti_m5, ti_m4, ti_m3, ti_m2, ti_m1, ti_0, ti_1, ti_2, ti_3, ti_4, ti_5, ti_6, ti_7, ti_8, ti_9, ti_10, ti_11, ti_12, ti_19, ti_20, ti_21, ti_44, ti_45, ti_48, ti_57, ti_59, ti_60, ti_98, ti_99, ti_100, ti_101, ti_103, ti_108, ti_110, ti_114, ti_127]); omega) | (split <;> omega))
                refine ⟨hi476, ?_⟩
                have hz477 := vlt hi476
                try have f478 : ((x1 + 1) : Int32).toInt = (x1).toInt + 1 := ad32 (a := (x1).toInt) (b := 1) (rfl) (ti_1) (by omega) (by omega)
                have hi479 : vp_in (x1 + 1) 6 := vp_of (by first | omega | ((try simp only [Int32.lt_iff_toInt_lt, Int32.le_iff_toInt_le, ← Int32.toInt_inj, Int32.toInt_toInt64, ti_m14, ti_m13, ti_m12, ti_m11, ti_m10, ti_m9, ti_m6, ti_m5, ti_m4, ti_m3, ti_m2, ti_m1, ti_0, ti_1, ti_2, ti_3, ti_4, ti_5, ti_6, ti_7, ti_8, ti_9, ti_10, ti_11, ti_12, ti_19, ti_20, ti_21, ti_44, ti_45, ti_48, ti_57, ti_59, ti_60, ti_98, ti_99, ti_100, ti_101, ti_103, ti_108, ti_110, ti_114, ti_127]); omega) | (split <;> omega)) (by first | omega | ((try simp only [Int32.lt_iff_toInt_lt, Int32.le_iff_toInt_le, ← Int32.toInt_inj, Int32.toInt_toInt64, ti_m14, ti_m13, ti_m12, ti_m11, ti_m10, ti_m9, ti_m6, ti_m5, ti_m4, ti_m3, ti_m2, ti_m1, ti_0, ti_1, ti_2, ti_3, ti_4, ti_5, ti_6, ti_7, ti_8, ti_9, ti_10, ti_11, ti_12, ti_19, ti_20, ti_21, ti_44, ti_45, ti_48, ti_57, ti_59, ti_60, ti_98, ti_99, ti_100, ti_101, ti_103, ti_108, ti_110, ti_114, ti_127]); omega) | (split <;> omega))
                refine ⟨hi479, ?_⟩
                have hz480 := vlt hi479
                have hi481 : vp_in x1 6 := vp_of (by first | omega | ((try simp only [Int32.lt_iff_toInt_lt, Int32.le_iff_toInt_le, ← Int32.toInt_inj, Int32.toInt_toInt64, ti_m14, ti_m13, ti_m12, ti_m11, ti_m10, ti_m9, ti_m6, ti_m5, ti_m4, ti_m3, ti_m2, ti_m1, ti_0, ti_1, ti_2, ti_3, ti_4, ti_5, ti_6, ti_7, ti_8, ti_9, ti_10, ti_11, ti_12, ti_19, ti_20, ti_21, ti_44, ti_45, ti_48, ti_57, ti_59, ti_60, ti_98, ti_99, ti_100, ti_101, ti_103, ti_108, ti_110, ti_114, ti_127]); omega) | (split <;> omega)) (by first | omega | ((try simp only [Int32.lt_iff_toInt_lt, Int32.le_iff_toInt_le, ← Int32.toInt_inj, Int32.toInt_toInt64, ti_m14, ti_m13, ti_m12, ti_m11, ti_m10, ti_m9, ti_m6, ti_m5, ti_m4, ti_m3, ti_m2, ti_m1, ti_0, ti_1, ti_2, ti_3, ti_4, ti_5, ti_6, ti_7, ti_8, ti_9, ti_10, ti_11, ti_12, ti_19, ti_20, ti_21, ti_44, ti_45, ti_48, ti_57, ti_59, ti_60, ti_98, ti_99, ti_100, ti_101, ti_103, ti_108, ti_110, ti_114, ti_127]); omega) | (split <;> omega))
                refine ⟨hi481, ?_⟩
                have hz482 := vlt hi481
                have hi483 : vp_in x1 6 := vp_of (by first | omega | ((try simp only [Int32.lt_iff_toInt_lt, Int32.le_iff_toInt_le, ← Int32.toInt_inj, Int32.toInt_toInt64, ti_m14, ti_m13, ti_m12, ti_m11, ti_m10, ti_m9, ti_m6, ti_m5, ti_m4, ti_m3, ti_m2, ti_m1, ti_0, ti_1, ti_2, ti_3, ti_4, ti_5, ti_6, ti_7, ti_8, ti_9, ti_10, ti_11, ti_12, ti_19, ti_20, ti_21, ti_44, ti_45, ti_48, ti_57, ti_59, ti_60, ti_98, ti_99, ti_100, ti_101, ti_103, ti_108, ti_110, ti_114, ti_127]); omega) | (split <;> omega)) (by first | omega | ((try simp only [Int32.lt_iff_toInt_lt, Int32.le_iff_toInt_le, ← Int32.toInt_inj, Int32.toInt_toInt64, ti_m14, ti_m13, ti_m12, ti_m11, ti_m10, ti_m9, ti_m6, ti_m5, ti_m4, ti_m3, ti_m2, ti_m1, ti_0, ti_1, ti_2, ti_3, ti_4, ti_5, ti_6, ti_7, ti_8, ti_9, ti_10, ti_11, ti_12, ti_19, ti_20, ti_21, ti_44, ti_45, ti_48, ti_57, ti_59, ti_60, ti_98, ti_99, ti_100, ti_101, ti_103, ti_108, ti_110, ti_114, ti_127]); omega) | (split <;> omega))
                refine ⟨hi483, ?_⟩
                have hz484 := vlt hi483
                have hc488 : o01 it466 := i9_o hI470
                refine ⟨hc488, ?_⟩
                have hc489 : ¬ (lg465 503 (x1 + 1).toNatClampNeg) = 0 := (PT473 ((x1 + 1)).toNatClampNeg (by have z1 := cl32 (i := (x1 + 1)) (by omega); omega) (by have z1 := cl32 (i := (x1 + 1)) (by omega); omega)).1.1
                refine ⟨hc489, ?_⟩
                have hc490 : ¬ (lg465 503 x1.toNatClampNeg) = 0 := (PT473 (x1).toNatClampNeg (by have z1 := cl32 (i := x1) (by omega); omega) (by have z1 := cl32 (i := x1) (by omega); omega)).1.1
                refine ⟨hc490, ?_⟩
                intro q485 em_q485 lg486 em_lg486 it487 em_it487
                have hI491 : I9 lg486 it487 := by rw [em_lg486, em_it487]; exact i9_g hI470 (by rw [em_q485]; exact gL_o (i9_o hI470))
                have hK492 : Kd (fun j => False) (fun k => k = 18 ∨ k = 19 ∨ k = 20 ∨ k = 33 ∨ k = 34 ∨ k = 35) lg0 it0 lg486 it487 := by rw [em_lg486, em_it487]; exact kd_g (by first | decide | (dsimp only; decide) | omega | (dsimp only; omega)) (by first | decide | (dsimp only; decide) | omega | (dsimp only; omega)) (by first | decide | (dsimp only; decide) | omega | (dsimp only; omega)) hK471
                have z19_lg486 : ¬ lg486 489 19 = 0 := by rw [em_lg486, setU_19, em_q485]; exact gL_d hc489 hc490
                have e493 : (it487 489 0).toInt = (it466 489 0).toInt := by rw [em_it487]; exact congrArg Int32.toInt (setO_c (by decide))
                have PT494 : T9 lg486 it487 := T9_c PT473 (by rw [em_lg486]; exact setU_row (by decide)) (by rw [em_lg486]; exact setU_row (by decide)) (by rw [em_it487]; exact setO_row (by decide)) (by rw [em_it487]; exact setO_c (by decide))
                have PW495 : W9 lg486 it487 := W9_c PW474 (by rw [em_lg486]; exact setU_c (by decide) (by decide)) (by rw [em_it487]; exact setO_c (by decide)) (by rw [em_it487]; exact setO_c (by decide))
                have hc499 : o01 it487 := i9_o hI491
                refine ⟨hc499, ?_⟩
                have hc500 : ¬ (lg486 489 19) = 0 := by assumption
                refine ⟨hc500, ?_⟩
                have hc501 : (¬ (lg465 489 18) = 0) ∨ (¬ it487 489 20 = 0) := by first | assumption | exact Or.inl (by assumption) | exact Or.inl (pos_ne (by assumption)) | exact Or.inl (pos_ne (Int64.not_le.mp (by assumption))) | (rw [em_lg486, setU_row (by decide), em_it487, setO_c (by decide)]; exact Or.inl (pos_ne (Int64.not_le.mp (by assumption)))) | exact Or.inl (by assumption)
                refine ⟨hc501, ?_⟩
                intro q496 em_q496 lg497 em_lg497 it498 em_it498
                have hI502 : I9 lg497 it498 := by rw [em_lg497, em_it498]; exact i9_g hI491 (by rw [em_q496]; exact gB_o (i9_o hI491))
                have hK503 : Kd (fun j => False) (fun k => k = 18 ∨ k = 19 ∨ k = 20 ∨ k = 33 ∨ k = 34 ∨ k = 35) lg0 it0 lg497 it498 := by rw [em_lg497, em_it498]; exact kd_g (by first | decide | (dsimp only; decide) | omega | (dsimp only; omega)) (by first | decide | (dsimp only; decide) | omega | (dsimp only; omega)) (by first | decide | (dsimp only; decide) | omega | (dsimp only; omega)) hK492
                have z19_lg497 : ¬ lg497 489 19 = 0 := by rw [em_lg497, setU_19, em_q496]; exact gB_d hc500 hc501
                have e504 : (it498 489 0).toInt = (it487 489 0).toInt := by rw [em_it498]; exact congrArg Int32.toInt (setO_c (by decide))
                have PT505 : T9 lg497 it498 := T9_c PT494 (by rw [em_lg497]; exact setU_row (by decide)) (by rw [em_lg497]; exact setU_row (by decide)) (by rw [em_it498]; exact setO_row (by decide)) (by rw [em_it498]; exact setO_c (by decide))
                have PW506 : W9 lg497 it498 := W9_c PW495 (by rw [em_lg497]; exact setU_c (by decide) (by decide)) (by rw [em_it498]; exact setO_c (by decide)) (by rw [em_it498]; exact setO_c (by decide))
                try have f507 : ((x1 + 1) : Int32).toInt = (x1).toInt + 1 := ad32 (a := (x1).toInt) (b := 1) (rfl) (ti_1) (by omega) (by omega)
                refine ⟨_, s_X9_offers  ((x1 + 1)) hI502 (z19_lg497) (PW506) (by first | omega | (simp only [Int32.lt_iff_toInt_lt, Int32.le_iff_toInt_le, ← Int32.toInt_inj, Int32.toInt_toInt64, ti_m14, ti_m13, ti_m12, ti_m11, ti_m10, ti_m9, ti_m6, ti_m5, ti_m4, ti_m3, ti_m2, ti_m1, ti_0, ti_1, ti_2, ti_3, ti_4, ti_5, ti_6, ti_7, ti_8, ti_9, ti_10, ti_11, ti_12, ti_19, ti_20, ti_21, ti_44, ti_45, ti_48, ti_57, ti_59, ti_60, ti_98, ti_99, ti_100, ti_101, ti_103, ti_108, ti_110, ti_114, ti_127] at *; omega)), ?_⟩
                intro lg508 it509 hq
                obtain ⟨⟨hI510, hK511⟩, ha514⟩ := hq
                have hK512 : Kd (fun j => False) (fun k => k = 18 ∨ k = 19 ∨ k = 20 ∨ k = 33 ∨ k = 34 ∨ k = 35) lg0 it0 lg508 it509 := kd_t hK503 hK511 (fun j hj => by first | omega | exact False.elim hj | (dsimp only at hj ⊢; omega)) (fun j hj => by first | omega | exact False.elim hj | (dsimp only at hj ⊢; omega))
                try have e515 : (it509 489 0).toInt = (it498 489 0).toInt := congrArg Int32.toInt (hK511.2 0 (by first | decide | (dsimp only; decide) | omega | (dsimp only; omega))).2
                have PT516 : T9 lg508 it509 := T9_c PT505 (hK511.1 503 (by decide) (by first | decide | (dsimp only; decide) | omega | (dsimp only; omega))).1 (hK511.1 505 (by decide) (by first | decide | (dsimp only; decide) | omega | (dsimp only; omega))).1 (hK511.1 501 (by decide) (by first | decide | (dsimp only; decide) | omega | (dsimp only; omega))).2 (hK511.2 0 (by first | decide | (dsimp only; decide) | omega | (dsimp only; omega))).2
                try have f517 : ((x1 + 1) : Int32).toInt = (x1).toInt + 1 := ad32 (a := (x1).toInt) (b := 1) (rfl) (ti_1) (by omega) (by omega)
                exact ih79 ((x1 + 1)) _ _ hI510 hK512 (by refine ⟨?_, ?_, ?_, ?_, ?_⟩ <;> first | exact Nx_0 | omega | assumption | exact Or.inl rfl | exact Or.inr rfl | exact i8_1 (by assumption) (by assumption) | decide) (by omega)
              · try simp only [Int32.lt_iff_toInt_lt, Int32.le_iff_toInt_le, ← Int32.toInt_inj, Int32.toInt_toInt64, ti_m14, ti_m13, ti_m12, ti_m11, ti_m10, ti_m9, ti_m6, ti_m5, ti_m4, ti_m3, ti_m2, ti_m1, ti_0, ti_1, ti_2, ti_3, ti_4, ti_5, ti_6, ti_7, ti_8, ti_9, ti_10, ti_11, ti_12, ti_19, ti_20, ti_21, ti_44, ti_45, ti_48, ti_57, ti_59, ti_60, ti_98, ti_99, ti_100, ti_101, ti_103, ti_108, ti_110, ti_114, ti_127] at c127
                try have f518 : ((x1 + 1) : Int32).toInt = (x1).toInt + 1 := ad32 (a := (x1).toInt) (b := 1) (rfl) (ti_1) (by omega) (by omega)
                exact ih79 ((x1 + 1)) _ _ hI470 hK471 (by refine ⟨?_, ?_, ?_, ?_, ?_⟩ <;> first | exact Nx_0 | omega | assumption | exact Or.inl rfl | exact Or.inr rfl | exact i8_1 (by assumption) (by assumption) | decide) (by omega)
        have t519 := ti_0
        exact ⟨_, lp79 ((7 - ((0 : Int32)).toInt).toNat + 1) ((0 : Int32)) _ _ hI148 hK149 (by refine ⟨?_, ?_, ?_, ?_, ?_⟩ <;> first | exact Nx_0 | omega | assumption | exact Or.inl rfl | exact Or.inr rfl | exact i8_1 (by assumption) (by assumption) | decide) (Nat.lt_succ_self _)⟩
      · try simp only [Int32.lt_iff_toInt_lt, Int32.le_iff_toInt_le, ← Int32.toInt_inj, Int32.toInt_toInt64, ti_m14, ti_m13, ti_m12, ti_m11, ti_m10, ti_m9, ti_m6, ti_m5, ti_m4, ti_m3, ti_m2, ti_m1, ti_0, ti_1, ti_2, ti_3, ti_4, ti_5, ti_6, ti_7, ti_8, ti_9, ti_10, ti_11, ti_12, ti_19, ti_20, ti_21, ti_44, ti_45, ti_48, ti_57, ti_59, ti_60, ti_98, ti_99, ti_100, ti_101, ti_103, ti_108, ti_110, ti_114, ti_127] at c27
        have hc523 : o01 it146 := i9_o hI148
        refine ⟨hc523, ?_⟩
        have hc524 : ¬ (1 : Int64) = 0 := by decide
        refine ⟨hc524, ?_⟩
        have hc525 : ¬ (lg0 505 0) = 0 := (PT151 0 (by decide) (by omega)).1.2
        refine ⟨hc525, ?_⟩
        intro q520 em_q520 lg521 em_lg521 it522 em_it522
        have hI526 : I9 lg521 it522 := by rw [em_lg521, em_it522]; exact i9_g hI148 (by rw [em_q520]; exact gL_o (i9_o hI148))
        have hK527 : Kd (fun j => False) (fun k => k = 18 ∨ k = 19 ∨ k = 20 ∨ k = 33 ∨ k = 34 ∨ k = 35) lg0 it0 lg521 it522 := by rw [em_lg521, em_it522]; exact kd_g (by first | decide | (dsimp only; decide) | omega | (dsimp only; omega)) (by first | decide | (dsimp only; decide) | omega | (dsimp only; omega)) (by first | decide | (dsimp only; decide) | omega | (dsimp only; omega)) hK149
        have z19_lg521 : ¬ lg521 489 19 = 0 := by rw [em_lg521, setU_19, em_q520]; exact gL_d hc524 hc525
        try have w_lg521 : ¬ lg521 489 18 = 0 ∨ ¬ it522 489 20 = 0 := by rw [em_lg521, setU_18, em_it522, setO_o, em_q520]; exact less0_up (neg_ne0 (Int64.not_le.mp (by assumption)))
        have e528 : (it522 489 0).toInt = (it146 489 0).toInt := by rw [em_it522]; exact congrArg Int32.toInt (setO_c (by decide))
        have e529 : (it522 489 31).toInt = (it146 489 31).toInt := by rw [em_it522]; exact congrArg Int32.toInt (setO_c (by decide))
        have PT530 : T9 lg521 it522 := T9_c PT151 (by rw [em_lg521]; exact setU_row (by decide)) (by rw [em_lg521]; exact setU_row (by decide)) (by rw [em_it522]; exact setO_row (by decide)) (by rw [em_it522]; exact setO_c (by decide))
        have PW531 : W9 lg521 it522 := W9_c PW152 (by rw [em_lg521]; exact setU_c (by decide) (by decide)) (by rw [em_it522]; exact setO_c (by decide)) (by rw [em_it522]; exact setO_c (by decide))
        have hc535 : o01 it522 := i9_o hI526
        refine ⟨hc535, ?_⟩
        have hc536 : ¬ (lg521 503 0) = 0 := (PT530 0 (by decide) (by omega)).1.1
        refine ⟨hc536, ?_⟩
        have hc537 : (¬ (lg521 489 18) = 0) ∨ (¬ it522 489 20 = 0) := by first | assumption | exact Or.inl (by assumption) | exact Or.inl (pos_ne (by assumption)) | exact Or.inl (pos_ne (Int64.not_le.mp (by assumption))) | (rw [em_lg521, setU_row (by decide), em_it522, setO_c (by decide)]; exact Or.inl (pos_ne (Int64.not_le.mp (by assumption)))) | exact Or.inl (by assumption)
        refine ⟨hc537, ?_⟩
        intro q532 em_q532 lg533 em_lg533 it534 em_it534
        have hI538 : I9 lg533 it534 := by rw [em_lg533, em_it534]; exact i9_g hI526 (by rw [em_q532]; exact gB_o (i9_o hI526))
        have hK539 : Kd (fun j => False) (fun k => k = 18 ∨ k = 19 ∨ k = 20 ∨ k = 33 ∨ k = 34 ∨ k = 35) lg0 it0 lg533 it534 := by rw [em_lg533, em_it534]; exact kd_g (by first | decide | (dsimp only; decide) | omega | (dsimp only; omega)) (by first | decide | (dsimp only; decide) | omega | (dsimp only; omega)) (by first | decide | (dsimp only; decide) | omega | (dsimp only; omega)) hK527
        have z19_lg533 : ¬ lg533 489 19 = 0 := by rw [em_lg533, setU_19, em_q532]; exact gB_d hc536 hc537
        have e540 : (it534 489 0).toInt = (it522 489 0).toInt := by rw [em_it534]; exact congrArg Int32.toInt (setO_c (by decide))
        have e541 : (it534 489 31).toInt = (it522 489 31).toInt := by rw [em_it534]; exact congrArg Int32.toInt (setO_c (by decide))
        have PT542 : T9 lg533 it534 := T9_c PT530 (by rw [em_lg533]; exact setU_row (by decide)) (by rw [em_lg533]; exact setU_row (by decide)) (by rw [em_it534]; exact setO_row (by decide)) (by rw [em_it534]; exact setO_c (by decide))
        have PW543 : W9 lg533 it534 := W9_c PW531 (by rw [em_lg533]; exact setU_c (by decide) (by decide)) (by rw [em_it534]; exact setO_c (by decide)) (by rw [em_it534]; exact setO_c (by decide))
        refine ⟨_, s_X9_offers  ((0 : Int32)) hI538 (z19_lg533) (PW543) (by first | omega | (simp only [Int32.lt_iff_toInt_lt, Int32.le_iff_toInt_le, ← Int32.toInt_inj, Int32.toInt_toInt64, ti_m14, ti_m13, ti_m12, ti_m11, ti_m10, ti_m9, ti_m6, ti_m5, ti_m4, ti_m3, ti_m2, ti_m1, ti_0, ti_1, ti_2, ti_3, ti_4, ti_5, ti_6, ti_7, ti_8, ti_9, ti_10, ti_11, ti_12, ti_19, ti_20, ti_21, ti_44, ti_45, ti_48, ti_57, ti_59, ti_60, ti_98, ti_99, ti_100, ti_101, ti_103, ti_108, ti_110, ti_114, ti_127] at *; omega)), ?_⟩
        intro lg544 it545 hq
        obtain ⟨⟨hI546, hK547⟩, ha550⟩ := hq
        have hK548 : Kd (fun j => False) (fun k => k = 18 ∨ k = 19 ∨ k = 20 ∨ k = 33 ∨ k = 34 ∨ k = 35) lg0 it0 lg544 it545 := kd_t hK539 hK547 (fun j hj => by first | omega | exact False.elim hj | (dsimp only at hj ⊢; omega)) (fun j hj => by first | omega | exact False.elim hj | (dsimp only at hj ⊢; omega))
        try have e551 : (it545 489 0).toInt = (it534 489 0).toInt := congrArg Int32.toInt (hK547.2 0 (by first | decide | (dsimp only; decide) | omega | (dsimp only; omega))).2
        try have e552 : (it545 489 31).toInt = (it534 489 31).toInt := congrArg Int32.toInt (hK547.2 31 (by first | decide | (dsimp only; decide) | omega | (dsimp only; omega))).2
        have PT553 : T9 lg544 it545 := T9_c PT542 (hK547.1 503 (by decide) (by first | decide | (dsimp only; decide) | omega | (dsimp only; omega))).1 (hK547.1 505 (by decide) (by first | decide | (dsimp only; decide) | omega | (dsimp only; omega))).1 (hK547.1 501 (by decide) (by first | decide | (dsimp only; decide) | omega | (dsimp only; omega))).2 (hK547.2 0 (by first | decide | (dsimp only; decide) | omega | (dsimp only; omega))).2
        have lp79 : ∀ (n : Nat) (x1 : Int32) (lg : LGt) (it : ITt), I9 lg it → Kd (fun j => False) (fun k => k = 18 ∨ k = 19 ∨ k = 20 ∨ k = 33 ∨ k = 34 ∨ k = 35) lg0 it0 lg it → ((0 ≤ (x1).toInt) ∧ (T9 lg it) ∧ (W9 lg it) ∧ ((it 489 0).toInt = (it0 489 0).toInt) ∧ ((x1).toInt ≤ 6)) → (7 - (x1).toInt).toNat < n → w_X9_next_b79  Pz  n x1 lg it := by
          intro n79
          induction n79 with
          | zero => intro x1 lg it _ _ _ hn; exact absurd hn (Nat.not_lt_zero _)
          | succ n79 ih79 =>
            intro x1 lg556 it557 hI554 hK555 hv hn
            unfold w_X9_next_b79
            obtain ⟨hv79_0, hv79_1, hv79_2, hv79_3, hv79_4⟩ := hv
            try have f558 : ((x1 + 1) : Int32).toInt = (x1).toInt + 1 := ad32 (a := (x1).toInt) (b := 1) (rfl) (ti_1) (by omega) (by omega)
            have f559 : 0 ≤ (it557 489 0).toInt ∧ (it557 489 0).toInt ≤ 6 := i9_f hI554 (j := 489) (k := 0) rfl
            refine ⟨fun c86 => ?_, fun c86 => ?_⟩
            · try simp only [Int32.lt_iff_toInt_lt, Int32.le_iff_toInt_le, ← Int32.toInt_inj, Int32.toInt_toInt64, ti_m14, ti_m13, ti_m12, ti_m11, ti_m10, ti_m9, ti_m6, ti_m5, ti_m4, ti_m3, ti_m2, ti_m1, ti_0, ti_1, ti_2, ti_3, ti_4, ti_5, ti_6, ti_7, ti_8, ti_9, ti_10, ti_11, ti_12, ti_19, ti_20, ti_21, ti_44, ti_45, ti_48, ti_57, ti_59, ti_60, ti_98, ti_99, ti_100, ti_101, ti_103, ti_108, ti_110, ti_114, ti_127] at c86
              refine ⟨fun c208 => ?_, fun c208 => ?_⟩
              · try simp only [Int32.lt_iff_toInt_lt, Int32.le_iff_toInt_le, ← Int32.toInt_inj, Int32.toInt_toInt64, ti_m14, ti_m13, ti_m12, ti_m11, ti_m10, ti_m9, ti_m6, ti_m5, ti_m4, ti_m3, ti_m2, ti_m1, ti_0, ti_1, ti_2, ti_3, ti_4, ti_5, ti_6, ti_7, ti_8, ti_9, ti_10, ti_11, ti_12, ti_19, ti_20, ti_21, ti_44, ti_45, ti_48, ti_57, ti_59, ti_60, ti_98, ti_99, ti_100, ti_101, ti_103, ti_108, ti_110, ti_114, ti_127] at c208
                subst hp
                exact ⟨⟨hI554, hK555⟩, ⟨rfl, hv79_2⟩⟩
              · try simp only [Int32.lt_iff_toInt_lt, Int32.le_iff_toInt_le, ← Int32.toInt_inj, Int32.toInt_toInt64, ti_m14, ti_m13, ti_m12, ti_m11, ti_m10, ti_m9, ti_m6, ti_m5, ti_m4, ti_m3, ti_m2, ti_m1, ti_0, ti_1, ti_2, ti_3, ti_4, ti_5, ti_6, ti_7, ti_8, ti_9, ti_10, ti_11, ti_12, ti_19, ti_20, ti_21, ti_44, ti_45, ti_48, ti_57, ti_59, ti_60, ti_98, ti_99, ti_100, ti_101, ti_103, ti_108, ti_110, ti_114, ti_127] at c208
                refine ⟨fun c215 => ?_, fun c215 => ?_⟩
                · try simp only [Int32.lt_iff_toInt_lt, Int32.le_iff_toInt_le, ← Int32.toInt_inj, Int32.toInt_toInt64, ti_m14, ti_m13, ti_m12, ti_m11, ti_m10, ti_m9, ti_m6, ti_m5, ti_m4, ti_m3, ti_m2, ti_m1, ti_0, ti_1, ti_2, ti_3, ti_4, ti_5, ti_6, ti_7, ti_8, ti_9, ti_10, ti_11, ti_12, ti_19, ti_20, ti_21, ti_44, ti_45, ti_48, ti_57, ti_59, ti_60, ti_98, ti_99, ti_100, ti_101, ti_103, ti_108, ti_110, ti_114, ti_127] at c215
                  subst hp
                  exact ⟨⟨hI554, hK555⟩, ⟨rfl, hv79_2⟩⟩
                · try simp only [Int32.lt_iff_toInt_lt, Int32.le_iff_toInt_le, ← Int32.toInt_inj, Int32.toInt_toInt64, ti_m14, ti_m13, ti_m12, ti_m11, ti_m10, ti_m9, ti_m6, ti_m5, ti_m4, ti_m3, ti_m2, ti_m1, ti_0, ti_1, ti_2, ti_3, ti_4, ti_5, ti_6, ti_7, ti_8, ti_9, ti_10, ti_11, ti_12, ti_19, ti_20, ti_21, ti_44, ti_45, ti_48, ti_57, ti_59, ti_60, ti_98, ti_99, ti_100, ti_101, ti_103, ti_108, ti_110, ti_114, ti_127] at c215
                  try have f560 : (((it557 489 0) - 1) : Int32).toInt = ((it557 489 0)).toInt - 1 := sb32 (a := ((it557 489 0)).toInt) (b := 1) (rfl) (ti_1) (by omega) (by omega)
                  have hi561 : vp_in ((it557 489 0) - 1) 6 := vp_of (by first | omega | ((try simp only [Int32.lt_iff_toInt_lt, Int32.le_iff_toInt_le, ← Int32.toInt_inj, Int32.toInt_toInt64, ti_m14, ti_m13, ti_m12, ti_m11, ti_m10, ti_m9, ti_m6, ti_m5, ti_m4, ti_m3, ti_m2, ti_m1, ti_0, ti_1, ti_2, ti_3, ti_4, ti_5, ti_6, ti_7, ti_8, ti_9, ti_10, ti_11, ti_12, ti_19, ti_20, ti_21, ti_44, ti_45, ti_48, ti_57, ti_59, ti_60, ti_98, ti_99, ti_100, ti_101, ti_103, ti_108, ti_110, ti_114, ti_127]); omega) | (split <;> omega)) (by first | omega | ((try simp only [Int32.lt_iff_toInt_lt, Int32.le_iff_toInt_le, ← Int32.toInt_inj, Int32.toInt_toInt64, ti_m14, ti_m13, ti_m12, ti_m11, ti_m10, ti_m9, ti_m6, ti_m5, ti_m4, ti_m3, ti_m2, ti_m1, ti_0, ti_1, ti_2, ti_3, ti_4, ti_5, ti_6, ti_7, ti_8, ti_9, ti_10, ti_11, ti_12, ti_19, ti_20, ti_21, ti_44, ti_45, ti_48, ti_57, ti_59, ti_60, ti_98, ti_99, ti_100, ti_101, ti_103, ti_108, ti_110, ti_114, ti_127]); omega) | (split <;> omega))
                  refine ⟨hi561, ?_⟩
                  have hz562 := vlt hi561
                  refine ⟨fun c231 => ?_, fun c231 => ?_⟩
                  · try simp only [Int32.lt_iff_toInt_lt, Int32.le_iff_toInt_le, ← Int32.toInt_inj, Int32.toInt_toInt64, ti_m14, ti_m13, ti_m12, ti_m11, ti_m10, ti_m9, ti_m6, ti_m5, ti_m4, ti_m3, ti_m2, ti_m1, ti_0, ti_1, ti_2, ti_3, ti_4, ti_5, ti_6, ti_7, ti_8, ti_9, ti_10, ti_11, ti_12, ti_19, ti_20, ti_21, ti_44, ti_45, ti_48, ti_57, ti_59, ti_60, ti_98, ti_99, ti_100, ti_101, ti_103, ti_108, ti_110, ti_114, ti_127] at c231
                    subst hp
                    exact ⟨⟨hI554, hK555⟩, ⟨rfl, hv79_2⟩⟩
                  · try simp only [Int32.lt_iff_toInt_lt, Int32.le_iff_toInt_le, ← Int32.toInt_inj, Int32.toInt_toInt64, ti_m14, ti_m13, ti_m12, ti_m11, ti_m10, ti_m9, ti_m6, ti_m5, ti_m4, ti_m3, ti_m2, ti_m1, ti_0, ti_1, ti_2, ti_3, ti_4, ti_5, ti_6, ti_7, ti_8, ti_9, ti_10, ti_11, ti_12, ti_19, ti_20, ti_21, ti_44, ti_45, ti_48, ti_57, ti_59, ti_60, ti_98, ti_99, ti_100, ti_101, ti_103, ti_108, ti_110, ti_114, ti_127] at c231
                    try have f563 : (((it557 489 0) - 1) : Int32).toInt = ((it557 489 0)).toInt - 1 := sb32 (a := ((it557 489 0)).toInt) (b := 1) (rfl) (ti_1) (by omega) (by omega)
                    have hi564 : vp_in ((it557 489 0) - 1) 6 := vp_of (by first | omega | ((try simp only [Int32.lt_iff_toInt_lt, Int32.le_iff_toInt_le, ← Int32.toInt_inj, Int32.toInt_toInt64, ti_m14, ti_m13, ti_m12, ti_m11, ti_m10, ti_m9, ti_m6, ti_m5, ti_m4, ti_m3, ti_m2, ti_m1, ti_0, ti_1, ti_2, ti_3, ti_4, ti_5, ti_6, ti_7, ti_8, ti_9, ti_10, ti_11, ti_12, ti_19, ti_20, ti_21, ti_44, ti_45, ti_48, ti_57, ti_59, ti_60, ti_98, ti_99, ti_100, ti_101, ti_103, ti_108, ti_110, ti_114, ti_127]); omega) | (split <;> omega)) (by first | omega | ((try simp only [Int32.lt_iff_toInt_lt, Int32.le_iff_toInt_le, ← Int32.toInt_inj, Int32.toInt_toInt64, ti_m14, ti_m13, ti_m12, ti_m11, ti_m10, ti_m9, ti_m6, ti_m5, ti_m4, ti_m3, ti_m2, ti_m1, ti_0, ti_1, ti_2, ti_3, ti_4, ti_5, ti_6, ti_7, ti_8, ti_9, ti_10, ti_11, ti_12, ti_19, ti_20, ti_21, ti_44, ti_45, ti_48, ti_57, ti_59, ti_60, ti_98, ti_99, ti_100, ti_101, ti_103, ti_108, ti_110, ti_114, ti_127]); omega) | (split <;> omega))
                    refine ⟨hi564, ?_⟩
                    have hz565 := vlt hi564
                    try have f566 : (((it557 489 0) - 1) : Int32).toInt = ((it557 489 0)).toInt - 1 := sb32 (a := ((it557 489 0)).toInt) (b := 1) (rfl) (ti_1) (by omega) (by omega)
                    have hi567 : vp_in ((it557 489 0) - 1) 6 := vp_of (by first | omega | ((try simp only [Int32.lt_iff_toInt_lt, Int32.le_iff_toInt_le, ← Int32.toInt_inj, Int32.toInt_toInt64, ti_m14, ti_m13, ti_m12, ti_m11, ti_m10, ti_m9, ti_m6, ti_m5, ti_m4, ti_m3, ti_m2, ti_m1, ti_0, ti_1, ti_2, ti_3, ti_4, ti_5, ti_6, ti_7, ti_8, ti_9, ti_10, ti_11, ti_12, ti_19, ti_20, ti_21, ti_44, ti_45, ti_48, ti_57, ti_59, ti_60, ti_98, ti_99, ti_100, ti_101, ti_103, ti_108, ti_110, ti_114, ti_127]); omega) | (split <;> omega)) (by first | omega | ((try simp only [Int32.lt_iff_toInt_lt, Int32.le_iff_toInt_le, ← Int32.toInt_inj, Int32.toInt_toInt64, ti_m14, ti_m13, ti_m12, ti_m11, ti_m10, ti_m9, ti_m6, ti_m5, ti_m4, ti_m3, ti_m2, ti_m1, ti_0, ti_1, ti_2, ti_3, ti_4, ti_5, ti_6, ti_7, ti_8, ti_9, ti_10, ti_11, ti_12, ti_19, ti_20, ti_21, ti_44, ti_45, ti_48, ti_57, ti_59, ti_60, ti_98, ti_99, ti_100, ti_101, ti_103, ti_108, ti_110, ti_114, ti_127]); omega) | (split <;> omega))
                    refine ⟨hi567, ?_⟩
                    have hz568 := vlt hi567
                    have hc572 : o01 it557 := i9_o hI554
                    refine ⟨hc572, ?_⟩
                    have hc573 : ¬ (1 : Int64) = 0 := by decide
                    refine ⟨hc573, ?_⟩
                    have hc574 : ¬ (lg556 503 ((it557 489 0) - 1).toNatClampNeg) = 0 := (hv79_1 (((it557 489 0) - 1)).toNatClampNeg (by have z1 := cl32 (i := ((it557 489 0) - 1)) (by omega); omega) (by have z1 := cl32 (i := ((it557 489 0) - 1)) (by omega); omega)).1.1
                    refine ⟨hc574, ?_⟩
                    intro q569 em_q569 lg570 em_lg570 it571 em_it571
                    have hI575 : I9 lg570 it571 := by rw [em_lg570, em_it571]; exact i9_g hI554 (by rw [em_q569]; exact gL_o (i9_o hI554))
                    have hK576 : Kd (fun j => False) (fun k => k = 18 ∨ k = 19 ∨ k = 20 ∨ k = 33 ∨ k = 34 ∨ k = 35) lg0 it0 lg570 it571 := by rw [em_lg570, em_it571]; exact kd_g (by first | decide | (dsimp only; decide) | omega | (dsimp only; omega)) (by first | decide | (dsimp only; decide) | omega | (dsimp only; omega)) (by first | decide | (dsimp only; decide) | omega | (dsimp only; omega)) hK555
                    have z19_lg570 : ¬ lg570 489 19 = 0 := by rw [em_lg570, setU_19, em_q569]; exact gL_d hc573 hc574
                    have e577 : (it571 489 0).toInt = (it557 489 0).toInt := by rw [em_it571]; exact congrArg Int32.toInt (setO_c (by decide))
                    have e578 : (it571 489 32).toInt = (it557 489 32).toInt := by rw [em_it571]; exact congrArg Int32.toInt (setO_c (by decide))
                    have PT579 : T9 lg570 it571 := T9_c hv79_1 (by rw [em_lg570]; exact setU_row (by decide)) (by rw [em_lg570]; exact setU_row (by decide)) (by rw [em_it571]; exact setO_row (by decide)) (by rw [em_it571]; exact setO_c (by decide))
                    have PW580 : W9 lg570 it571 := W9_c hv79_2 (by rw [em_lg570]; exact setU_c (by decide) (by decide)) (by rw [em_it571]; exact setO_c (by decide)) (by rw [em_it571]; exact setO_c (by decide))
                    have f581 : 0 ≤ (it571 489 0).toInt ∧ (it571 489 0).toInt ≤ 6 := i9_f hI575 (j := 489) (k := 0) rfl
                    try have f582 : (((it571 489 0) - 1) : Int32).toInt = ((it571 489 0)).toInt - 1 := sb32 (a := ((it571 489 0)).toInt) (b := 1) (rfl) (ti_1) (by omega) (by omega)
                    have hi583 : vp_in ((it571 489 0) - 1) 6 := vp_of (by first | omega | ((try simp only [Int32.lt_iff_toInt_lt, Int32.le_iff_toInt_le, ← Int32.toInt_inj, Int32.toInt_toInt64, ti_m14, ti_m13, ti_m12, ti_m11, ti_m10, ti_m9, ti_m6, ti_m5, ti_m4, ti_m3, ti_m2, ti_m1, ti_0, ti_1, ti_2, ti_3, ti_4, ti_5, ti_6, ti_7, ti_8, ti_9, ti_10, ti_11, ti_12, ti_19, ti_20, ti_21, ti_44, ti_45, ti_48, ti_57, ti_59, ti_60, ti_98, ti_99, ti_100, ti_101, ti_103, ti_108, ti_110, ti_114, ti_127]); omega) | (split <;> omega)) (by first | omega | ((try simp only [Int32.lt_iff_toInt_lt, Int32.le_iff_toInt_le, ← Int32.toInt_inj, Int32.toInt_toInt64, ti_m14, ti_m13, ti_m12, ti_m11, ti_m10, ti_m9, ti_m6, ti_m5, ti_m4, ti_m3, ti_m2, ti_m1, ti_0, ti_1, ti_2, ti_3, ti_4, ti_5, ti_6, ti_7, ti_8, ti_9, ti_10, ti_11, ti_12, ti_19, ti_20, ti_21, ti_44, ti_45, ti_48, ti_57, ti_59, ti_60, ti_98, ti_99, ti_100, ti_101, ti_103, ti_108, ti_110, ti_114, ti_127]); omega) | (split <;> omega))
                    refine ⟨hi583, ?_⟩
                    have hz584 := vlt hi583
                    try have f585 : (((it571 489 0) - 1) : Int32).toInt = ((it571 489 0)).toInt - 1 := sb32 (a := ((it571 489 0)).toInt) (b := 1) (rfl) (ti_1) (by omega) (by omega)
                    have hi586 : vp_in ((it571 489 0) - 1) 6 := vp_of (by first | omega | ((try simp only [Int32.lt_iff_toInt_lt, Int32.le_iff_toInt_le, ← Int32.toInt_inj, Int32.toInt_toInt64, ti_m14, ti_m13, ti_m12, ti_m11, ti_m10, ti_m9, ti_m6, ti_m5, ti_m4, ti_m3, ti_m2, ti_m1, ti_0, ti_1, ti_2, ti_3, ti_4, ti_5, ti_6, ti_7, ti_8, ti_9, ti_10, ti_11, ti_12, ti_19, ti_20, ti_21, ti_44, ti_45, ti_48, ti_57, ti_59, ti_60, ti_98, ti_99, ti_100, ti_101, ti_103, ti_108, ti_110, ti_114, ti_127]); omega) | (split <;> omega)) (by first | omega | ((try simp only [Int32.lt_iff_toInt_lt, Int32.le_iff_toInt_le, ← Int32.toInt_inj, Int32.toInt_toInt64, ti_m14, ti_m13, ti_m12, ti_m11, ti_m10, ti_m9, ti_m6, ti_m5, ti_m4, ti_m3, ti_m2, ti_m1, ti_0, ti_1, ti_2, ti_3, ti_4, ti_5, ti_6, ti_7, ti_8, ti_9, ti_10, ti_11, ti_12, ti_19, ti_20, ti_21, ti_44, ti_45, ti_48, ti_57, ti_59, ti_60, ti_98, ti_99, ti_100, ti_101, ti_103, ti_108, ti_110, ti_114, ti_127]); omega) | (split <;> omega))
                    refine ⟨hi586, ?_⟩
                    have hz587 := vlt hi586
                    have hc591 : o01 it571 := i9_o hI575
                    refine ⟨hc591, ?_⟩
                    have hc592 : ¬ (lg570 489 19) = 0 := by assumption
                    refine ⟨hc592, ?_⟩
                    have hc593 : (¬ (lg570 504 ((it571 489 0) - 1).toNatClampNeg) = 0) ∨ (¬ it571 489 20 = 0) := by first | assumption | exact Or.inl (by assumption) | exact Or.inl (pos_ne (by assumption)) | exact Or.inl (pos_ne (Int64.not_le.mp (by assumption))) | (rw [em_lg570, setU_row (by decide), em_it571, setO_c (by decide)]; exact Or.inl (pos_ne (Int64.not_le.mp (by assumption)))) | exact Or.inl (by assumption)
                    refine ⟨hc593, ?_⟩
                    intro q588 em_q588 lg589 em_lg589 it590 em_it590
                    have hI594 : I9 lg589 it590 := by rw [em_lg589, em_it590]; exact i9_g hI575 (by rw [em_q588]; exact gB_o (i9_o hI575))
                    have hK595 : Kd (fun j => False) (fun k => k = 18 ∨ k = 19 ∨ k = 20 ∨ k = 33 ∨ k = 34 ∨ k = 35) lg0 it0 lg589 it590 := by rw [em_lg589, em_it590]; exact kd_g (by first | decide | (dsimp only; decide) | omega | (dsimp only; omega)) (by first | decide | (dsimp only; decide) | omega | (dsimp only; omega)) (by first | decide | (dsimp only; decide) | omega | (dsimp only; omega)) hK576
                    have z19_lg589 : ¬ lg589 489 19 = 0 := by rw [em_lg589, setU_19, em_q588]; exact gB_d hc592 hc593
                    have e596 : (it590 489 0).toInt = (it571 489 0).toInt := by rw [em_it590]; exact congrArg Int32.toInt (setO_c (by decide))
                    have e597 : (it590 489 32).toInt = (it571 489 32).toInt := by rw [em_it590]; exact congrArg Int32.toInt (setO_c (by decide))
                    have PT598 : T9 lg589 it590 := T9_c PT579 (by rw [em_lg589]; exact setU_row (by decide)) (by rw [em_lg589]; exact setU_row (by decide)) (by rw [em_it590]; exact setO_row (by decide)) (by rw [em_it590]; exact setO_c (by decide))
                    have PW599 : W9 lg589 it590 := W9_c PW580 (by rw [em_lg589]; exact setU_c (by decide) (by decide)) (by rw [em_it590]; exact setO_c (by decide)) (by rw [em_it590]; exact setO_c (by decide))
                    refine ⟨_, s_X9_offers  ((9 : Int32)) hI594 (z19_lg589) (PW599) (by first | omega | (simp only [Int32.lt_iff_toInt_lt, Int32.le_iff_toInt_le, ← Int32.toInt_inj, Int32.toInt_toInt64, ti_m14, ti_m13, ti_m12, ti_m11, ti_m10, ti_m9, ti_m6, ti_m5, ti_m4, ti_m3, ti_m2, ti_m1, ti_0, ti_1, ti_2, ti_3, ti_4, ti_5, ti_6, ti_7, ti_8, ti_9, ti_10, ti_11, ti_12, ti_19, ti_20, ti_21, ti_44, ti_45, ti_48, ti_57, ti_59, ti_60, ti_98, ti_99, ti_100, ti_101, ti_103, ti_108, ti_110, ti_114, ti_127] at *; omega)), ?_⟩
                    intro lg600 it601 hq
                    obtain ⟨⟨hI602, hK603⟩, ha606⟩ := hq
                    have hK604 : Kd (fun j => False) (fun k => k = 18 ∨ k = 19 ∨ k = 20 ∨ k = 33 ∨ k = 34 ∨ k = 35) lg0 it0 lg600 it601 := kd_t hK595 hK603 (fun j hj => by first | omega | exact False.elim hj | (dsimp only at hj ⊢; omega)) (fun j hj => by first | omega | exact False.elim hj | (dsimp only at hj ⊢; omega))
                    try have e607 : (it601 489 0).toInt = (it590 489 0).toInt := congrArg Int32.toInt (hK603.2 0 (by first | decide | (dsimp only; decide) | omega | (dsimp only; omega))).2
                    try have e608 : (it601 489 32).toInt = (it590 489 32).toInt := congrArg Int32.toInt (hK603.2 32 (by first | decide | (dsimp only; decide) | omega | (dsimp only; omega))).2
                    have PT609 : T9 lg600 it601 := T9_c PT598 (hK603.1 503 (by decide) (by first | decide | (dsimp only; decide) | omega | (dsimp only; omega))).1 (hK603.1 505 (by decide) (by first | decide | (dsimp only; decide) | omega | (dsimp only; omega))).1 (hK603.1 501 (by decide) (by first | decide | (dsimp only; decide) | omega | (dsimp only; omega))).2 (hK603.2 0 (by first | decide | (dsimp only; decide) | omega | (dsimp only; omega))).2
                    subst hp
                    exact ⟨⟨hI602, hK604⟩, ⟨rfl, ha606⟩⟩
            · try simp only [Int32.lt_iff_toInt_lt, Int32.le_iff_toInt_le, ← Int32.toInt_inj, Int32.toInt_toInt64, ti_m14, ti_m13, ti_m12, ti_m11, ti_m10, ti_m9, ti_m6, ti_m5, ti_m4, ti_m3, ti_m2, ti_m1, ti_0, ti_1, ti_2, ti_3, ti_4, ti_5, ti_6, ti_7, ti_8, ti_9, ti_10, ti_11, ti_12, ti_19, ti_20, ti_21, ti_44, ti_45, ti_48, ti_57, ti_59, ti_60, ti_98, ti_99, ti_100, ti_101, ti_103, ti_108, ti_110, ti_114, ti_127] at c86
              have hi610 : vp_in x1 6 := vp_of (by first | omega | ((try simp only [Int32.lt_iff_toInt_lt, Int32.le_iff_toInt_le, ← Int32.toInt_inj, Int32.toInt_toInt64, ti_m14, ti_m13, ti_m12, ti_m11, ti_m10, ti_m9, ti_m6, ti_m5, ti_m4, ti_m3, ti_m2, ti_m1, ti_0, ti_1, ti_2, ti_3, ti_4, ti_5, ti_6, ti_7, ti_8, ti_9, ti_10, ti_11, ti_12, ti_19, ti_20, ti_21, ti_44, ti_45, ti_48, ti_57, ti_59, ti_60, ti_98, ti_99, ti_100, ti_101, ti_103, ti_108, ti_110, ti_114, ti_127]); omega) | (split <;> omega)) (by first | omega | ((try simp only [Int32.lt_iff_toInt_lt, Int32.le_iff_toInt_le, ← Int32.toInt_inj, Int32.toInt_toInt64, ti_m14, ti_m13, ti_m12, ti_m11, ti_m10, ti_m9, ti_m6, ti_m5, ti_m4, ti_m3, ti_m2, ti_m1, ti_0, ti_1, ti_2, ti_3, ti_4, ti_5, ti_6, ti_7, ti_8, ti_9, ti_10, ti_11, ti_12, ti_19, ti_20, ti_21, ti_44, ti_45, ti_48, ti_57, ti_59, ti_60, ti_98, ti_99, ti_100, ti_101, ti_103, ti_108, ti_110, ti_114, ti_127]); omega) | (split <;> omega))
              refine ⟨hi610, ?_⟩
              have hz611 := vlt hi610
              have hi612 : vp_in x1 6 := vp_of (by first | omega | ((try simp only [Int32.lt_iff_toInt_lt, Int32.le_iff_toInt_le, ← Int32.toInt_inj, Int32.toInt_toInt64, ti_m14, ti_m13, ti_m12, ti_m11, ti_m10, ti_m9, ti_m6, ti_m5, ti_m4, ti_m3, ti_m2, ti_m1, ti_0, ti_1, ti_2, ti_3, ti_4, ti_5, ti_6, ti_7, ti_8, ti_9, ti_10, ti_11, ti_12, ti_19, ti_20, ti_21, ti_44, ti_45, ti_48, ti_57, ti_59, ti_60, ti_98, ti_99, ti_100, ti_101, ti_103, ti_108, ti_110, ti_114, ti_127]); omega) | (split <;> omega)) (by first | omega | ((try simp only [Int32.lt_iff_toInt_lt, Int32.le_iff_toInt_le, ← Int32.toInt_inj, Int32.toInt_toInt64, ti_m14, ti_m13, ti_m12, ti_m11, ti_m10, ti_m9, ti_m6, ti_m5, ti_m4, ti_m3, ti_m2, ti_m1, ti_0, ti_1, ti_2, ti_3, ti_4, ti_5, ti_6, ti_7, ti_8, ti_9, ti_10, ti_11, ti_12, ti_19, ti_20, ti_21, ti_44, ti_45, ti_48, ti_57, ti_59, ti_60, ti_98, ti_99, ti_100, ti_101, ti_103, ti_108, ti_110, ti_114, ti_127]); omega) | (split <;> omega))
              refine ⟨hi612, ?_⟩
              have hz613 := vlt hi612
              try have f614 : ((x1 + 1) : Int32).toInt = (x1).toInt + 1 := ad32 (a := (x1).toInt) (b := 1) (rfl) (ti_1) (by omega) (by omega)
              have hi615 : vp_in (x1 + 1) 6 := vp_of (by first | omega | ((try simp only [Int32.lt_iff_toInt_lt, Int32.le_iff_toInt_le, ← Int32.toInt_inj, Int32.toInt_toInt64, ti_m14, ti_m13, ti_m12, ti_m11, ti_m10, ti_m9, ti_m6, ti_m5, ti_m4, ti_m3, ti_m2, ti_m1, ti_0, ti_1, ti_2, ti_3, ti_4, ti_5, ti_6, ti_7, ti_8, ti_9, ti_10, ti_11, ti_12, ti_19, ti_20, ti_21, ti_44, ti_45, ti_48, ti_57, ti_59, ti_60, ti_98, ti_99, ti_100, ti_101, ti_103, ti_108, ti_110, ti_114, ti_127]); omega) | (split <;> omega)) (by first | omega | ((try simp only [Int32.lt_iff_toInt_lt, Int32.le_iff_toInt_le, ← Int32.toInt_inj, Int32.toInt_toInt64, ti_m14, ti_m13, ti_m12, ti_m11, ti_m10, ti_m9, ti_m6, ti_m5, ti_m4, ti_m3, ti_m2, ti_m1, ti_0, ti_1, ti_2, ti_3, ti_4, ti_5, ti_6, ti_7, ti_8, ti_9, ti_10, ti_11, ti_12, ti_19, ti_20, ti_21, ti_44, ti_45, ti_48, ti_57, ti_59, ti_60, ti_98, ti_99, ti_100, ti_101, ti_103, ti_108, ti_110, ti_114, ti_127]); omega) | (split <;> omega))
              refine ⟨hi615, ?_⟩
              have hz616 := vlt hi615
              try have f617 : ((x1 + 1) : Int32).toInt = (x1).toInt + 1 := ad32 (a := (x1).toInt) (b := 1) (rfl) (ti_1) (by omega) (by omega)
              have hi618 : vp_in (x1 + 1) 6 := vp_of (by first | omega | ((try simp only [Int32.lt_iff_toInt_lt, Int32.le_iff_toInt_le, ← Int32.toInt_inj, Int32.toInt_toInt64, ti_m14, ti_m13, ti_m12, ti_m11, ti_m10, ti_m9, ti_m6, ti_m5, ti_m4, ti_m3, ti_m2, ti_m1, ti_0, ti_1, ti_2, ti_3, ti_4, ti_5, ti_6, ti_7, ti_8, ti_9, ti_10, ti_11, ti_12, ti_19, ti_20, ti_21, ti_44, ti_45, ti_48, ti_57, ti_59, ti_60, ti_98, ti_99, ti_100, ti_101, ti_103, ti_108, ti_110, ti_114, ti_127]); omega) | (split <;> omega)) (by first | omega | ((try simp only [Int32.lt_iff_toInt_lt, Int32.le_iff_toInt_le, ← Int32.toInt_inj, Int32.toInt_toInt64, ti_m14, ti_m13, ti_m12, ti_m11, ti_m10, ti_m9, ti_m6, ti_m5, ti_m4, ti_m3, ti_m2, ti_m1, ti_0, ti_1, ti_2, ti_3, ti_4, ti_5, ti_6, ti_7, ti_8, ti_9, ti_10, ti_11, ti_12, ti_19, ti_20, ti_21, ti_44, ti_45, ti_48, ti_57, ti_59, ti_60, ti_98, ti_99, ti_100, ti_101, ti_103, ti_108, ti_110, ti_114, ti_127]); omega) | (split <;> omega))
              refine ⟨hi618, ?_⟩
              have hz619 := vlt hi618
              have hc623 : o01 it557 := i9_o hI554
              refine ⟨hc623, ?_⟩
              have hc624 : ¬ (lg556 505 x1.toNatClampNeg) = 0 := (hv79_1 (x1).toNatClampNeg (by have z1 := cl32 (i := x1) (by omega); omega) (by have z1 := cl32 (i := x1) (by omega); omega)).1.2
              refine ⟨hc624, ?_⟩
              have hc625 : ¬ (lg556 505 (x1 + 1).toNatClampNeg) = 0 := (hv79_1 ((x1 + 1)).toNatClampNeg (by have z1 := cl32 (i := (x1 + 1)) (by omega); omega) (by have z1 := cl32 (i := (x1 + 1)) (by omega); omega)).1.2
              refine ⟨hc625, ?_⟩
              intro q620 em_q620 lg621 em_lg621 it622 em_it622
              have hI626 : I9 lg621 it622 := by rw [em_lg621, em_it622]; exact i9_g hI554 (by rw [em_q620]; exact gL_o (i9_o hI554))
              have hK627 : Kd (fun j => False) (fun k => k = 18 ∨ k = 19 ∨ k = 20 ∨ k = 33 ∨ k = 34 ∨ k = 35) lg0 it0 lg621 it622 := by rw [em_lg621, em_it622]; exact kd_g (by first | decide | (dsimp only; decide) | omega | (dsimp only; omega)) (by first | decide | (dsimp only; decide) | omega | (dsimp only; omega)) (by first | decide | (dsimp only; decide) | omega | (dsimp only; omega)) hK555
              have z19_lg621 : ¬ lg621 489 19 = 0 := by rw [em_lg621, setU_19, em_q620]; exact gL_d hc624 hc625
              have e628 : (it622 489 0).toInt = (it557 489 0).toInt := by rw [em_it622]; exact congrArg Int32.toInt (setO_c (by decide))
              have PT629 : T9 lg621 it622 := T9_c hv79_1 (by rw [em_lg621]; exact setU_row (by decide)) (by rw [em_lg621]; exact setU_row (by decide)) (by rw [em_it622]; exact setO_row (by decide)) (by rw [em_it622]; exact setO_c (by decide))
              have PW630 : W9 lg621 it622 := W9_c hv79_2 (by rw [em_lg621]; exact setU_c (by decide) (by decide)) (by rw [em_it622]; exact setO_c (by decide)) (by rw [em_it622]; exact setO_c (by decide))
              refine ⟨fun c127 => ?_, fun c127 => ?_⟩
              · try simp only [Int32.lt_iff_toInt_lt, Int32.le_iff_toInt_le, ← Int32.toInt_inj, Int32.toInt_toInt64, ti_m14, ti_m13, ti_m12, ti_m11, ti_m10, ti_m9, ti_m6, ti_m5, ti_m4, ti_m3, ti_m2, ti_m1, ti_0, ti_1, ti_2, ti_3, ti_4, ti_5, ti_6, ti_7, ti_8, ti_9, ti_10, ti_11, ti_12, ti_19, ti_20, ti_21, ti_44, ti_45, ti_48, ti_57, ti_59, ti_60, ti_98, ti_99, ti_100, ti_101, ti_103, ti_108, ti_110, ti_114, ti_127] at c127
                try have f631 : ((x1 + 1) : Int32).toInt = (x1).toInt + 1 := ad32 (a := (x1).toInt) (b := 1) (rfl) (ti_1) (by omega) (by omega)
                have hi632 : vp_in (x1 + 1) 6 := vp_of (by first | omega | ((try simp only [Int32.lt_iff_toInt_lt, Int32.le_iff_toInt_le, ← Int32.toInt_inj, Int32.toInt_toInt64, ti_m14, ti_m13, ti_m12, ti_m11, ti_m10, ti_m9, ti_m6, ti_m5, ti_m4, ti_m3, ti_m2, ti_m1, ti_0, ti_1, ti_2, ti_3, ti_4, ti_5, ti_6, ti_7, ti_8, ti_9, ti_10, ti_11, ti_12, ti_19, ti_20, ti_21, ti_44, ti_45, ti_48, ti_57, ti_59, ti_60, ti_98, ti_99, ti_100, ti_101, ti_103, ti_108, ti_110, ti_114, ti_127]); omega) | (split <;> omega)) (by first | omega | ((try simp only [Int32.lt_iff_toInt_lt, Int32.le_iff_toInt_le, ← Int32.toInt_inj, Int32.toInt_toInt64, ti_m14, ti_m13, ti_m12, ti_m11, ti_m10, ti_m9, ti_m6, ti_m5, ti_m4, ti_m3, ti_m2, ti_m1, ti_0, ti_1, ti_2, ti_3, ti_4, ti_5, ti_6, ti_7, ti_8, ti_9, ti_10, ti_11, ti_12, ti_19, ti_20, ti_21, ti_44, ti_45, ti_48, ti_57, ti_59, ti_60, ti_98, ti_99, ti_100, ti_101, ti_103, ti_108, ti_110, ti_114, ti_127]); omega) | (split <;> omega))
                refine ⟨hi632, ?_⟩
                have hz633 := vlt hi632
                try have f634 : ((x1 + 1) : Int32).toInt = (x1).toInt + 1 := ad32 (a := (x1).toInt) (b := 1) (rfl) (ti_1) (by omega) (by omega)
                have hi635 : vp_in (x1 + 1) 6 := vp_of (by first | omega | ((try simp only [Int32.lt_iff_toInt_lt, Int32.le_iff_toInt_le, ← Int32.toInt_inj, Int32.toInt_toInt64, ti_m14, ti_m13, ti_m12, ti_m11, ti_m10, ti_m9, ti_m6, ti_m5, ti_m4, ti_m3, ti_m2, ti_m1, ti_0, ti_1, ti_2, ti_3, ti_4, ti_5, ti_6, ti_7, ti_8, ti_9, ti_10, ti_11, ti_12, ti_19, ti_20, ti_21, ti_44, ti_45, ti_48, ti_57, ti_59, ti_60, ti_98, ti_99, ti_100, ti_101, ti_103, ti_108, ti_110, ti_114, ti_127]); omega) | (split <;> omega)) (by first | omega | ((try simp only [Int32.lt_iff_toInt_lt, Int32.le_iff_toInt_le, ← Int32.toInt_inj, Int32.toInt_toInt64, ti_m14, ti_m13, ti_m12, ti_m11, ti_m10, ti_m9, ti_m6, ti_m5, ti_m4, ti_m3, ti_m2, ti_m1, ti_0, ti_1, ti_2, ti_3, ti_4, ti_5, ti_6, ti_7, ti_8, ti_9, ti_10, ti_11, ti_12, ti_19, ti_20, ti_21, ti_44, ti_45, ti_48, ti_57, ti_59, ti_60, ti_98, ti_99, ti_100, ti_101, ti_103, ti_108, ti_110, ti_114, ti_127]); omega) | (split <;> omega))
                refine ⟨hi635, ?_⟩
                have hz636 := vlt hi635
                have hi637 : vp_in x1 6 := vp_of (by first | omega | ((try simp only [Int32.lt_iff_toInt_lt, Int32.le_iff_toInt_le, ← Int32.toInt_inj, Int32.toInt_toInt64, ti_m14, ti_m13, ti_m12, ti_m11, ti_m10, ti_m9, ti_m6, ti_m5, ti_m4, ti_m3, ti_m2, ti_m1, ti_0, ti_1, ti_2, ti_3, ti_4, ti_5, ti_6, ti_7, ti_8, ti_9, ti_10, ti_11, ti_12, ti_19, ti_20, ti_21, ti_44, ti_45, ti_48, ti_57, ti_59, ti_60, ti_98, ti_99, ti_100, ti_101, ti_103, ti_108, ti_110, ti_114, ti_127]); omega) | (split <;> omega)) (by first | omega | ((try simp only [Int32.lt_iff_toInt_lt, Int32.le_iff_toInt_le, ← Int32.toInt_inj, Int32.toInt_toInt64, ti_m14, ti_m13, ti_m12, ti_m11, ti_m10, ti_m9, ti_m6, ti_m5, ti_m4, ti_m3, ti_m2, ti_m1, ti_0, ti_1, ti_2, ti_3, ti_4, ti_5, ti_6, ti_7, ti_8, ti_9, ti_10, ti_11, ti_12, ti_19, ti_20, ti_21, ti_44, ti_45, ti_48, ti_57, ti_59, ti_60, ti_98, ti_99, ti_100, ti_101, ti_103, ti_108, ti_110, ti_114, ti_127]); omega) | (split <;> omega))
                refine ⟨hi637, ?_⟩
                have hz638 := vlt hi637
                have hi639 : vp_in x1 6 := vp_of (by first | omega | ((try simp only [Int32.lt_iff_toInt_lt, Int32.le_iff_toInt_le, ← Int32.toInt_inj, Int32.toInt_toInt64, ti_m14, ti_m13, ti_m12, ti_m11, ti_m10, ti_m9, ti_m6, ti_m5, ti_m4, ti_m3, ti_m2, ti_m1, ti_0, ti_1, ti_2, ti_3, ti_4, ti_5, ti_6, ti_7, ti_8, ti_9, ti_10, ti_11, ti_12, ti_19, ti_20, ti_21, ti_44, ti_45, ti_48, ti_57, ti_59, ti_60, ti_98, ti_99, ti_100, ti_101, ti_103, ti_108, ti_110, ti_114, ti_127]); omega) | (split <;> omega)) (by first | omega | ((try simp only [Int32.lt_iff_toInt_lt, Int32.le_iff_toInt_le, ← Int32.toInt_inj, Int32.toInt_toInt64, ti_m14, ti_m13, ti_m12, ti_m11, ti_m10, ti_m9, ti_m6, ti_m5, ti_m4, ti_m3, ti_m2, ti_m1, ti_0, ti_1, ti_2, ti_3, ti_4, ti_5, ti_6, ti_7, ti_8, ti_9, ti_10, ti_11, ti_12, ti_19, ti_20, ti_21, ti_44, ti_45, ti_48, ti_57, ti_59, ti_60, ti_98, ti_99, ti_100, ti_101, ti_103, ti_108, ti_110, ti_114, ti_127]); omega) | (split <;> omega))
                refine ⟨hi639, ?_⟩
                have hz640 := vlt hi639
                have hc644 : o01 it622 := i9_o hI626
                refine ⟨hc644, ?_⟩
                have hc645 : ¬ (lg621 503 (x1 + 1).toNatClampNeg) = 0 := (PT629 ((x1 + 1)).toNatClampNeg (by have z1 := cl32 (i := (x1 + 1)) (by omega); omega) (by have z1 := cl32 (i := (x1 + 1)) (by omega); omega)).1.1
                refine ⟨hc645, ?_⟩
                have hc646 : ¬ (lg621 503 x1.toNatClampNeg) = 0 := (PT629 (x1).toNatClampNeg (by have z1 := cl32 (i := x1) (by omega); omega) (by have z1 := cl32 (i := x1) (by omega); omega)).1.1
                refine ⟨hc646, ?_⟩
                intro q641 em_q641 lg642 em_lg642 it643 em_it643
                have hI647 : I9 lg642 it643 := by rw [em_lg642, em_it643]; exact i9_g hI626 (by rw [em_q641]; exact gL_o (i9_o hI626))
                have hK648 : Kd (fun j => False) (fun k => k = 18 ∨ k = 19 ∨ k = 20 ∨ k = 33 ∨ k = 34 ∨ k = 35) lg0 it0 lg642 it643 := by rw [em_lg642, em_it643]; exact kd_g (by first | decide | (dsimp only; decide) | omega | (dsimp only; omega)) (by first | decide | (dsimp only; decide) | omega | (dsimp only; omega)) (by first | decide | (dsimp only; decide) | omega | (dsimp only; omega)) hK627
                have z19_lg642 : ¬ lg642 489 19 = 0 := by rw [em_lg642, setU_19, em_q641]; exact gL_d hc645 hc646
                have e649 : (it643 489 0).toInt = (it622 489 0).toInt := by rw [em_it643]; exact congrArg Int32.toInt (setO_c (by decide))
                have PT650 : T9 lg642 it643 := T9_c PT629 (by rw [em_lg642]; exact setU_row (by decide)) (by rw [em_lg642]; exact setU_row (by decide)) (by rw [em_it643]; exact setO_row (by decide)) (by rw [em_it643]; exact setO_c (by decide))
                have PW651 : W9 lg642 it643 := W9_c PW630 (by rw [em_lg642]; exact setU_c (by decide) (by decide)) (by rw [em_it643]; exact setO_c (by decide)) (by rw [em_it643]; exact setO_c (by decide))
                have hc655 : o01 it643 := i9_o hI647
                refine ⟨hc655, ?_⟩
                have hc656 : ¬ (lg642 489 19) = 0 := by assumption
                refine ⟨hc656, ?_⟩
                have hc657 : (¬ (lg621 489 18) = 0) ∨ (¬ it643 489 20 = 0) := by first | assumption | exact Or.inl (by assumption) | exact Or.inl (pos_ne (by assumption)) | exact Or.inl (pos_ne (Int64.not_le.mp (by assumption))) | (rw [em_lg642, setU_row (by decide), em_it643, setO_c (by decide)]; exact Or.inl (pos_ne (Int64.not_le.mp (by assumption)))) | exact Or.inl (by assumption)
                refine ⟨hc657, ?_⟩
                intro q652 em_q652 lg653 em_lg653 it654 em_it654
                have hI658 : I9 lg653 it654 := by rw [em_lg653, em_it654]; exact i9_g hI647 (by rw [em_q652]; exact gB_o (i9_o hI647))
                have hK659 : Kd (fun j => False) (fun k => k = 18 ∨ k = 19 ∨ k = 20 ∨ k = 33 ∨ k = 34 ∨ k = 35) lg0 it0 lg653 it654 := by rw [em_lg653, em_it654]; exact kd_g (by first | decide | (dsimp only; decide) | omega | (dsimp only; omega)) (by first | decide | (dsimp only; decide) | omega | (dsimp only; omega)) (by first | decide | (dsimp only; decide) | omega | (dsimp only; omega)) hK648
                have z19_lg653 : ¬ lg653 489 19 = 0 := by rw [em_lg653, setU_19, em_q652]; exact gB_d hc656 hc657
                have e660 : (it654 489 0).toInt = (it643 489 0).toInt := by rw [em_it654]; exact congrArg Int32.toInt (setO_c (by decide))
                have PT661 : T9 lg653 it654 := T9_c PT650 (by rw [em_lg653]; exact setU_row (by decide)) (by rw [em_lg653]; exact setU_row (by decide)) (by rw [em_it654]; exact setO_row (by decide)) (by rw [em_it654]; exact setO_c (by decide))
                have PW662 : W9 lg653 it654 := W9_c PW651 (by rw [em_lg653]; exact setU_c (by decide) (by decide)) (by rw [em_it654]; exact setO_c (by decide)) (by rw [em_it654]; exact setO_c (by decide))
                try have f663 : ((x1 + 1) : Int32).toInt = (x1).toInt + 1 := ad32 (a := (x1).toInt) (b := 1) (rfl) (ti_1) (by omega) (by omega)
                refine ⟨_, s_X9_offers  ((x1 + 1)) hI658 (z19_lg653) (PW662) (by first | omega | (simp only [Int32.lt_iff_toInt_lt, Int32.le_iff_toInt_le, ← Int32.toInt_inj, Int32.toInt_toInt64, ti_m14, ti_m13, ti_m12, ti_m11, ti_m10, ti_m9, ti_m6, ti_m5, ti_m4, ti_m3, ti_m2, ti_m1, ti_0, ti_1, ti_2, ti_3, ti_4, ti_5, ti_6, ti_7, ti_8, ti_9, ti_10, ti_11, ti_12, ti_19, ti_20, ti_21, ti_44, ti_45, ti_48, ti_57, ti_59, ti_60, ti_98, ti_99, ti_100, ti_101, ti_103, ti_108, ti_110, ti_114, ti_127] at *; omega)), ?_⟩
                intro lg664 it665 hq
                obtain ⟨⟨hI666, hK667⟩, ha670⟩ := hq
                have hK668 : Kd (fun j => False) (fun k => k = 18 ∨ k = 19 ∨ k = 20 ∨ k = 33 ∨ k = 34 ∨ k = 35) lg0 it0 lg664 it665 := kd_t hK659 hK667 (fun j hj => by first | omega | exact False.elim hj | (dsimp only at hj ⊢; omega)) (fun j hj => by first | omega | exact False.elim hj | (dsimp only at hj ⊢; omega))
                try have e671 : (it665 489 0).toInt = (it654 489 0).toInt := congrArg Int32.toInt (hK667.2 0 (by first | decide | (dsimp only; decide) | omega | (dsimp only; omega))).2
                have PT672 : T9 lg664 it665 := T9_c PT661 (hK667.1 503 (by decide) (by first | decide | (dsimp only; decide) | omega | (dsimp only; omega))).1 (hK667.1 505 (by decide) (by first | decide | (dsimp only; decide) | omega | (dsimp only; omega))).1 (hK667.1 501 (by decide) (by first | decide | (dsimp only; decide) | omega | (dsimp only; omega))).2 (hK667.2 0 (by first | decide | (dsimp only; decide) | omega | (dsimp only; omega))).2
                try have f673 : ((x1 + 1) : Int32).toInt = (x1).toInt + 1 := ad32 (a := (x1).toInt) (b := 1) (rfl) (ti_1) (by omega) (by omega)
                exact ih79 ((x1 + 1)) _ _ hI666 hK668 (by refine ⟨?_, ?_, ?_, ?_, ?_⟩ <;> first | exact Nx_0 | omega | assumption | exact Or.inl rfl | exact Or.inr rfl | exact i8_1 (by assumption) (by assumption) | decide) (by omega)
              · try simp only [Int32.lt_iff_toInt_lt, Int32.le_iff_toInt_le, ← Int32.toInt_inj, Int32.toInt_toInt64, ti_m14, ti_m13, ti_m12, ti_m11, ti_m10, ti_m9, ti_m6, ti_m5, ti_m4, ti_m3, ti_m2, ti_m1, ti_0, ti_1, ti_2, ti_3, ti_4, ti_5, ti_6, ti_7, ti_8, ti_9, ti_10, ti_11, ti_12, ti_19, ti_20, ti_21, ti_44, ti_45, ti_48, ti_57, ti_59, ti_60, ti_98, ti_99, ti_100, ti_101, ti_103, ti_108, ti_110, ti_114, ti_127] at c127
                try have f674 : ((x1 + 1) : Int32).toInt = (x1).toInt + 1 := ad32 (a := (x1).toInt) (b := 1) (rfl) (ti_1) (by omega) (by omega)
                exact ih79 ((x1 + 1)) _ _ hI626 hK627 (by refine ⟨?_, ?_, ?_, ?_, ?_⟩ <;> first | exact Nx_0 | omega | assumption | exact Or.inl rfl | exact Or.inr rfl | exact i8_1 (by assumption) (by assumption) | decide) (by omega)
        have t675 := ti_0
        exact ⟨_, lp79 ((7 - ((0 : Int32)).toInt).toNat + 1) ((0 : Int32)) _ _ hI546 hK548 (by refine ⟨?_, ?_, ?_, ?_, ?_⟩ <;> first | exact Nx_0 | omega | assumption | exact Or.inl rfl | exact Or.inr rfl | exact i8_1 (by assumption) (by assumption) | decide) (Nat.lt_succ_self _)⟩
set_option maxRecDepth 100000 in
theorem s_X9_moves {lg0 : LGt} {it0 : ITt} (hI : I9 lg0 it0) (hT : T9 lg0 it0) (h29 : ¬ lg0 489 29 = 0) (h35 : ¬ lg0 489 35 = 0) : w_X9_moves  (fun (lg' : LGt) (it' : ITt) => (I9 lg' it' ∧ Kd (fun j => j = 506 ∨ j = 507) (fun k => k = 18 ∨ k = 19 ∨ k = 20 ∨ k = 36 ∨ k = 37) lg0 it0 lg' it') ∧ (¬ lg' 489 37 = 0 ∧ N9 lg' it'))  lg0 it0 := by
  have hKr : Kd (fun j => j = 506 ∨ j = 507) (fun k => k = 18 ∨ k = 19 ∨ k = 20 ∨ k = 36 ∨ k = 37) lg0 it0 lg0 it0 := kd_r
  generalize hp : (fun (lg' : LGt) (it' : ITt) => (I9 lg' it' ∧ Kd (fun j => j = 506 ∨ j = 507) (fun k => k = 18 ∨ k = 19 ∨ k = 20 ∨ k = 36 ∨ k = 37) lg0 it0 lg' it') ∧ (¬ lg' 489 37 = 0 ∧ N9 lg' it')) = Pz
  unfold w_X9_moves
  have t0 := ti_0
  have t9 := ti_9
  have tm1 := ti_m1
  have hc54 : o01 it0 := i9_o hI
  refine ⟨hc54, ?_⟩
  have hc55 : ¬ (lg0 489 29) = 0 := by assumption
  refine ⟨hc55, ?_⟩
  have hc56 : ¬ (lg0 489 35) = 0 := by assumption
  refine ⟨hc56, ?_⟩
  intro q51 em_q51 lg52 em_lg52 it53 em_it53
  have hI57 : I9 lg52 it53 := by rw [em_lg52, em_it53]; exact i9_g hI (by rw [em_q51]; exact gP_o (i9_o hI))
  have hK58 : Kd (fun j => j = 506 ∨ j = 507) (fun k => k = 18 ∨ k = 19 ∨ k = 20 ∨ k = 36 ∨ k = 37) lg0 it0 lg52 it53 := by rw [em_lg52, em_it53]; exact kd_g (by first | decide | (dsimp only; decide) | omega | (dsimp only; omega)) (by first | decide | (dsimp only; decide) | omega | (dsimp only; omega)) (by first | decide | (dsimp only; decide) | omega | (dsimp only; omega)) hKr
  have z19_lg52 : ¬ lg52 489 19 = 0 := by rw [em_lg52, setU_19, em_q51]; exact gP_d hc55 hc56
  have e59 : (it53 489 0).toInt = (it0 489 0).toInt := by rw [em_it53]; exact congrArg Int32.toInt (setO_c (by decide))
  have PT60 : T9 lg52 it53 := T9_c hT (by rw [em_lg52]; exact setU_row (by decide)) (by rw [em_lg52]; exact setU_row (by decide)) (by rw [em_it53]; exact setO_row (by decide)) (by rw [em_it53]; exact setO_c (by decide))
  have Pz2961 : ¬ lg52 489 29 = 0 := z_c (h29) (by rw [em_lg52]; exact setU_c (by decide) (by decide))
  have Pz3562 : ¬ lg52 489 35 = 0 := z_c (h35) (by rw [em_lg52]; exact setU_c (by decide) (by decide))
  intro lg63 em64
  have hI65 : I9 lg63 it53 := by rw [em64]; exact i9_l hI57 (by decide) (by decide) (by decide)
  have hK66 : Kd (fun j => j = 506 ∨ j = 507) (fun k => k = 18 ∨ k = 19 ∨ k = 20 ∨ k = 36 ∨ k = 37) lg0 it0 lg63 it53 := by rw [em64]; exact kd_lf (by first | decide | (dsimp only; decide) | omega | (dsimp only; omega)) hK58
  have PT67 : T9 lg63 it53 := T9_c PT60 (by rw [em64]; exact u2_row (by decide)) (by rw [em64]; exact u2_row (by decide)) rfl rfl
  have Pz2968 : ¬ lg63 489 29 = 0 := z_c (Pz2961) (by rw [em64]; exact u2_ne (by decide))
  have Pz3569 : ¬ lg63 489 35 = 0 := z_c (Pz3562) (by rw [em64]; exact u2_ne (by decide))
  have Pz1970 : ¬ lg63 489 19 = 0 := z_c (z19_lg52) (by rw [em64]; exact u2_ne (by decide))
  intro lg71 em72
  have hI73 : I9 lg71 it53 := by rw [em72]; exact i9_l hI65 (by decide) (by decide) (by decide)
  have hK74 : Kd (fun j => j = 506 ∨ j = 507) (fun k => k = 18 ∨ k = 19 ∨ k = 20 ∨ k = 36 ∨ k = 37) lg0 it0 lg71 it53 := by rw [em72]; exact kd_lf (by first | decide | (dsimp only; decide) | omega | (dsimp only; omega)) hK66
  have PT75 : T9 lg71 it53 := T9_c PT67 (by rw [em72]; exact u2_row (by decide)) (by rw [em72]; exact u2_row (by decide)) rfl rfl
  have Pz2976 : ¬ lg71 489 29 = 0 := z_c (Pz2968) (by rw [em72]; exact u2_ne (by decide))
  have Pz3577 : ¬ lg71 489 35 = 0 := z_c (Pz3569) (by rw [em72]; exact u2_ne (by decide))
  have Pz1978 : ¬ lg71 489 19 = 0 := z_c (Pz1970) (by rw [em72]; exact u2_ne (by decide))
  have Pz79 : ¬ lg71 489 37 = 0 := by rw [em72, u2_eq]; exact Pz1970
  have lp38 : ∀ (n : Nat) (x1 : Int32) (lg : LGt) (it : ITt), I9 lg it → Kd (fun j => j = 506 ∨ j = 507) (fun k => k = 18 ∨ k = 19 ∨ k = 20 ∨ k = 36 ∨ k = 37) lg0 it0 lg it → ((0 ≤ (x1).toInt) ∧ (T9 lg it) ∧ (¬ lg 489 35 = 0) ∧ (¬ lg 489 37 = 0) ∧ (Nx lg (x1).toInt) ∧ ((it 489 0).toInt = (it0 489 0).toInt)) → (7 - (x1).toInt).toNat < n → w_X9_moves_b38  Pz  n x1 lg it := by
    intro n38
    induction n38 with
    | zero => intro x1 lg it _ _ _ hn; exact absurd hn (Nat.not_lt_zero _)
    | succ n38 ih38 =>
      intro x1 lg82 it83 hI80 hK81 hv hn
      unfold w_X9_moves_b38
      obtain ⟨hv38_0, hv38_1, hv38_2, hv38_3, hv38_4, hv38_5⟩ := hv
      have f84 : 0 ≤ (it83 489 0).toInt ∧ (it83 489 0).toInt ≤ 6 := i9_f hI80 (j := 489) (k := 0) rfl
      refine ⟨fun c43 => ?_, fun c43 => ?_⟩
      · try simp only [Int32.lt_iff_toInt_lt, Int32.le_iff_toInt_le, ← Int32.toInt_inj, Int32.toInt_toInt64, ti_m14, ti_m13, ti_m12, ti_m11, ti_m10, ti_m9, ti_m6, ti_m5, ti_m4, ti_m3, ti_m2, ti_m1, ti_0, ti_1, ti_2, ti_3, ti_4, ti_5, ti_6, ti_7, ti_8, ti_9, ti_10, ti_11, ti_12, ti_19, ti_20, ti_21, ti_44, ti_45, ti_48, ti_57, ti_59, ti_60, ti_98, ti_99, ti_100, ti_101, ti_103, ti_108, ti_110, ti_114, ti_127] at c43
        subst hp
        exact ⟨⟨hI80, hK81⟩, ⟨hv38_3, Nx_N hv38_4 (by omega)⟩⟩
      · try simp only [Int32.lt_iff_toInt_lt, Int32.le_iff_toInt_le, ← Int32.toInt_inj, Int32.toInt_toInt64, ti_m14, ti_m13, ti_m12, ti_m11, ti_m10, ti_m9, ti_m6, ti_m5, ti_m4, ti_m3, ti_m2, ti_m1, ti_0, ti_1, ti_2, ti_3, ti_4, ti_5, ti_6, ti_7, ti_8, ti_9, ti_10, ti_11, ti_12, ti_19, ti_20, ti_21, ti_44, ti_45, ti_48, ti_57, ti_59, ti_60, ti_98, ti_99, ti_100, ti_101, ti_103, ti_108, ti_110, ti_114, ti_127] at c43
        have hi85 : vp_in x1 6 := vp_of (by first | omega | ((try simp only [Int32.lt_iff_toInt_lt, Int32.le_iff_toInt_le, ← Int32.toInt_inj, Int32.toInt_toInt64, ti_m14, ti_m13, ti_m12, ti_m11, ti_m10, ti_m9, ti_m6, ti_m5, ti_m4, ti_m3, ti_m2, ti_m1, ti_0, ti_1, ti_2, ti_3, ti_4, ti_5, ti_6, ti_7, ti_8, ti_9, ti_10, ti_11, ti_12, ti_19, ti_20, ti_21, ti_44, ti_45, ti_48, ti_57, ti_59, ti_60, ti_98, ti_99, ti_100, ti_101, ti_103, ti_108, ti_110, ti_114, ti_127]); omega) | (split <;> omega)) (by first | omega | ((try simp only [Int32.lt_iff_toInt_lt, Int32.le_iff_toInt_le, ← Int32.toInt_inj, Int32.toInt_toInt64, ti_m14, ti_m13, ti_m12, ti_m11, ti_m10, ti_m9, ti_m6, ti_m5, ti_m4, ti_m3, ti_m2, ti_m1, ti_0, ti_1, ti_2, ti_3, ti_4, ti_5, ti_6, ti_7, ti_8, ti_9, ti_10, ti_11, ti_12, ti_19, ti_20, ti_21, ti_44, ti_45, ti_48, ti_57, ti_59, ti_60, ti_98, ti_99, ti_100, ti_101, ti_103, ti_108, ti_110, ti_114, ti_127]); omega) | (split <;> omega))
        refine ⟨hi85, ?_⟩
        have hz86 := vlt hi85
        have hi87 : vp_in x1 6 := vp_of (by first | omega | ((try simp only [Int32.lt_iff_toInt_lt, Int32.le_iff_toInt_le, ← Int32.toInt_inj, Int32.toInt_toInt64, ti_m14, ti_m13, ti_m12, ti_m11, ti_m10, ti_m9, ti_m6, ti_m5, ti_m4, ti_m3, ti_m2, ti_m1, ti_0, ti_1, ti_2, ti_3, ti_4, ti_5, ti_6, ti_7, ti_8, ti_9, ti_10, ti_11, ti_12, ti_19, ti_20, ti_21, ti_44, ti_45, ti_48, ti_57, ti_59, ti_60, ti_98, ti_99, ti_100, ti_101, ti_103, ti_108, ti_110, ti_114, ti_127]); omega) | (split <;> omega)) (by first | omega | ((try simp only [Int32.lt_iff_toInt_lt, Int32.le_iff_toInt_le, ← Int32.toInt_inj, Int32.toInt_toInt64, ti_m14, ti_m13, ti_m12, ti_m11, ti_m10, ti_m9, ti_m6, ti_m5, ti_m4, ti_m3, ti_m2, ti_m1, ti_0, ti_1, ti_2, ti_3, ti_4, ti_5, ti_6, ti_7, ti_8, ti_9, ti_10, ti_11, ti_12, ti_19, ti_20, ti_21, ti_44, ti_45, ti_48, ti_57, ti_59, ti_60, ti_98, ti_99, ti_100, ti_101, ti_103, ti_108, ti_110, ti_114, ti_127]); omega) | (split <;> omega))
        refine ⟨hi87, ?_⟩
        have hz88 := vlt hi87
        have hc92 : o01 it83 := i9_o hI80
        refine ⟨hc92, ?_⟩
        have hc93 : ¬ (lg82 505 x1.toNatClampNeg) = 0 := (hv38_1 (x1).toNatClampNeg (by have z1 := cl32 (i := x1) (by omega); omega) (by have z1 := cl32 (i := x1) (by omega); omega)).1.2
        refine ⟨hc93, ?_⟩
        have hc94 : ¬ (lg82 489 35) = 0 := by assumption
        refine ⟨hc94, ?_⟩
        intro q89 em_q89 lg90 em_lg90 it91 em_it91
        have hI95 : I9 lg90 it91 := by rw [em_lg90, em_it91]; exact i9_g hI80 (by rw [em_q89]; exact gT_o (i9_o hI80))
        have hK96 : Kd (fun j => j = 506 ∨ j = 507) (fun k => k = 18 ∨ k = 19 ∨ k = 20 ∨ k = 36 ∨ k = 37) lg0 it0 lg90 it91 := by rw [em_lg90, em_it91]; exact kd_g (by first | decide | (dsimp only; decide) | omega | (dsimp only; omega)) (by first | decide | (dsimp only; decide) | omega | (dsimp only; omega)) (by first | decide | (dsimp only; decide) | omega | (dsimp only; omega)) hK81
        have z19_lg90 : ¬ lg90 489 19 = 0 := by rw [em_lg90, setU_19, em_q89]; exact gT_d hc93 hc94
        have e97 : (it91 489 0).toInt = (it83 489 0).toInt := by rw [em_it91]; exact congrArg Int32.toInt (setO_c (by decide))
        have PT98 : T9 lg90 it91 := T9_c hv38_1 (by rw [em_lg90]; exact setU_row (by decide)) (by rw [em_lg90]; exact setU_row (by decide)) (by rw [em_it91]; exact setO_row (by decide)) (by rw [em_it91]; exact setO_c (by decide))
        have Pz3599 : ¬ lg90 489 35 = 0 := z_c (hv38_2) (by rw [em_lg90]; exact setU_c (by decide) (by decide))
        have Pz37100 : ¬ lg90 489 37 = 0 := z_c (hv38_3) (by rw [em_lg90]; exact setU_c (by decide) (by decide))
        have PX101 : Nx lg90 (x1).toInt := Nx_c hv38_4 (by rw [em_lg90]; exact setU_row (by decide))
        have hi102 : vp_in x1 6 := vp_of (by first | omega | ((try simp only [Int32.lt_iff_toInt_lt, Int32.le_iff_toInt_le, ← Int32.toInt_inj, Int32.toInt_toInt64, ti_m14, ti_m13, ti_m12, ti_m11, ti_m10, ti_m9, ti_m6, ti_m5, ti_m4, ti_m3, ti_m2, ti_m1, ti_0, ti_1, ti_2, ti_3, ti_4, ti_5, ti_6, ti_7, ti_8, ti_9, ti_10, ti_11, ti_12, ti_19, ti_20, ti_21, ti_44, ti_45, ti_48, ti_57, ti_59, ti_60, ti_98, ti_99, ti_100, ti_101, ti_103, ti_108, ti_110, ti_114, ti_127]); omega) | (split <;> omega)) (by first | omega | ((try simp only [Int32.lt_iff_toInt_lt, Int32.le_iff_toInt_le, ← Int32.toInt_inj, Int32.toInt_toInt64, ti_m14, ti_m13, ti_m12, ti_m11, ti_m10, ti_m9, ti_m6, ti_m5, ti_m4, ti_m3, ti_m2, ti_m1, ti_0, ti_1, ti_2, ti_3, ti_4, ti_5, ti_6, ti_7, ti_8, ti_9, ti_10, ti_11, ti_12, ti_19, ti_20, ti_21, ti_44, ti_45, ti_48, ti_57, ti_59, ti_60, ti_98, ti_99, ti_100, ti_101, ti_103, ti_108, ti_110, ti_114, ti_127]); omega) | (split <;> omega))
        refine ⟨hi102, ?_⟩
        have hz103 := vlt hi102
        have hi104 : vp_in x1 6 := vp_of (by first | omega | ((try simp only [Int32.lt_iff_toInt_lt, Int32.le_iff_toInt_le, ← Int32.toInt_inj, Int32.toInt_toInt64, ti_m14, ti_m13, ti_m12, ti_m11, ti_m10, ti_m9, ti_m6, ti_m5, ti_m4, ti_m3, ti_m2, ti_m1, ti_0, ti_1, ti_2, ti_3, ti_4, ti_5, ti_6, ti_7, ti_8, ti_9, ti_10, ti_11, ti_12, ti_19, ti_20, ti_21, ti_44, ti_45, ti_48, ti_57, ti_59, ti_60, ti_98, ti_99, ti_100, ti_101, ti_103, ti_108, ti_110, ti_114, ti_127]); omega) | (split <;> omega)) (by first | omega | ((try simp only [Int32.lt_iff_toInt_lt, Int32.le_iff_toInt_le, ← Int32.toInt_inj, Int32.toInt_toInt64, ti_m14, ti_m13, ti_m12, ti_m11, ti_m10, ti_m9, ti_m6, ti_m5, ti_m4, ti_m3, ti_m2, ti_m1, ti_0, ti_1, ti_2, ti_3, ti_4, ti_5, ti_6, ti_7, ti_8, ti_9, ti_10, ti_11, ti_12, ti_19, ti_20, ti_21, ti_44, ti_45, ti_48, ti_57, ti_59, ti_60, ti_98, ti_99, ti_100, ti_101, ti_103, ti_108, ti_110, ti_114, ti_127]); omega) | (split <;> omega))
        refine ⟨hi104, ?_⟩
        have hz105 := vlt hi104
        have hc109 : o01 it91 := i9_o hI95
        refine ⟨hc109, ?_⟩
        have hc110 : ¬ (lg90 503 x1.toNatClampNeg) = 0 := (PT98 (x1).toNatClampNeg (by have z1 := cl32 (i := x1) (by omega); omega) (by have z1 := cl32 (i := x1) (by omega); omega)).1.1
        refine ⟨hc110, ?_⟩
        have hc111 : ¬ (lg90 489 19) = 0 := by assumption
        refine ⟨hc111, ?_⟩
        intro q106 em_q106 lg107 em_lg107 it108 em_it108
        have hI112 : I9 lg107 it108 := by rw [em_lg107, em_it108]; exact i9_g hI95 (by rw [em_q106]; exact gP_o (i9_o hI95))
        have hK113 : Kd (fun j => j = 506 ∨ j = 507) (fun k => k = 18 ∨ k = 19 ∨ k = 20 ∨ k = 36 ∨ k = 37) lg0 it0 lg107 it108 := by rw [em_lg107, em_it108]; exact kd_g (by first | decide | (dsimp only; decide) | omega | (dsimp only; omega)) (by first | decide | (dsimp only; decide) | omega | (dsimp only; omega)) (by first | decide | (dsimp only; decide) | omega | (dsimp only; omega)) hK96
        have z19_lg107 : ¬ lg107 489 19 = 0 := by rw [em_lg107, setU_19, em_q106]; exact gP_d hc110 hc111
        have e114 : (it108 489 0).toInt = (it91 489 0).toInt := by rw [em_it108]; exact congrArg Int32.toInt (setO_c (by decide))
        have PT115 : T9 lg107 it108 := T9_c PT98 (by rw [em_lg107]; exact setU_row (by decide)) (by rw [em_lg107]; exact setU_row (by decide)) (by rw [em_it108]; exact setO_row (by decide)) (by rw [em_it108]; exact setO_c (by decide))
        have Pz35116 : ¬ lg107 489 35 = 0 := z_c (Pz3599) (by rw [em_lg107]; exact setU_c (by decide) (by decide))
        have Pz37117 : ¬ lg107 489 37 = 0 := z_c (Pz37100) (by rw [em_lg107]; exact setU_c (by decide) (by decide))
        have PX118 : Nx lg107 (x1).toInt := Nx_c PX101 (by rw [em_lg107]; exact setU_row (by decide))
        have hi119 : vp_in x1 6 := vp_of (by first | omega | ((try simp only [Int32.lt_iff_toInt_lt, Int32.le_iff_toInt_le, ← Int32.toInt_inj, Int32.toInt_toInt64, ti_m14, ti_m13, ti_m12, ti_m11, ti_m10, ti_m9, ti_m6, ti_m5, ti_m4, ti_m3, ti_m2, ti_m1, ti_0, ti_1, ti_2, ti_3, ti_4, ti_5, ti_6, ti_7, ti_8, ti_9, ti_10, ti_11, ti_12, ti_19, ti_20, ti_21, ti_44, ti_45, ti_48, ti_57, ti_59, ti_60, ti_98, ti_99, ti_100, ti_101, ti_103, ti_108, ti_110, ti_114, ti_127]); omega) | (split <;> omega)) (by first | omega | ((try simp only [Int32.lt_iff_toInt_lt, Int32.le_iff_toInt_le, ← Int32.toInt_inj, Int32.toInt_toInt64, ti_m14, ti_m13, ti_m12, ti_m11, ti_m10, ti_m9, ti_m6, ti_m5, ti_m4, ti_m3, ti_m2, ti_m1, ti_0, ti_1, ti_2, ti_3, ti_4, ti_5, ti_6, ti_7, ti_8, ti_9, ti_10, ti_11, ti_12, ti_19, ti_20, ti_21, ti_44, ti_45, ti_48, ti_57, ti_59, ti_60, ti_98, ti_99, ti_100, ti_101, ti_103, ti_108, ti_110, ti_114, ti_127]); omega) | (split <;> omega))
        refine ⟨hi119, ?_⟩
        have hz120 := vlt hi119
        intro lg121 em122
        have hI123 : I9 lg121 it108 := by rw [em122]; exact i9_l hI112 (by decide) (by decide) (by decide)
        have hK124 : Kd (fun j => j = 506 ∨ j = 507) (fun k => k = 18 ∨ k = 19 ∨ k = 20 ∨ k = 36 ∨ k = 37) lg0 it0 lg121 it108 := by rw [em122]; exact kd_lr (by decide) (by first | decide | (dsimp only; decide) | omega | (dsimp only; omega)) hK113
        have PT125 : T9 lg121 it108 := T9_c PT115 (by rw [em122]; exact u2_row (by decide)) (by rw [em122]; exact u2_row (by decide)) rfl rfl
        have Pz35126 : ¬ lg121 489 35 = 0 := z_c (Pz35116) (by rw [em122]; exact congrFun (u2_row (by decide)) 35)
        have Pz37127 : ¬ lg121 489 37 = 0 := z_c (Pz37117) (by rw [em122]; exact congrFun (u2_row (by decide)) 37)
        have PX128 : Nx lg121 (x1).toInt := Nx_c PX118 (by rw [em122]; exact u2_row (by decide))
        have Pz19129 : ¬ lg121 489 19 = 0 := z_c (z19_lg107) (by rw [em122]; exact congrFun (u2_row (by decide)) 19)
        have hi130 : vp_in x1 6 := vp_of (by first | omega | ((try simp only [Int32.lt_iff_toInt_lt, Int32.le_iff_toInt_le, ← Int32.toInt_inj, Int32.toInt_toInt64, ti_m14, ti_m13, ti_m12, ti_m11, ti_m10, ti_m9, ti_m6, ti_m5, ti_m4, ti_m3, ti_m2, ti_m1, ti_0, ti_1, ti_2, ti_3, ti_4, ti_5, ti_6, ti_7, ti_8, ti_9, ti_10, ti_11, ti_12, ti_19, ti_20, ti_21, ti_44, ti_45, ti_48, ti_57, ti_59, ti_60, ti_98, ti_99, ti_100, ti_101, ti_103, ti_108, ti_110, ti_114, ti_127]); omega) | (split <;> omega)) (by first | omega | ((try simp only [Int32.lt_iff_toInt_lt, Int32.le_iff_toInt_le, ← Int32.toInt_inj, Int32.toInt_toInt64, ti_m14, ti_m13, ti_m12, ti_m11, ti_m10, ti_m9, ti_m6, ti_m5, ti_m4, ti_m3, ti_m2, ti_m1, ti_0, ti_1, ti_2, ti_3, ti_4, ti_5, ti_6, ti_7, ti_8, ti_9, ti_10, ti_11, ti_12, ti_19, ti_20, ti_21, ti_44, ti_45, ti_48, ti_57, ti_59, ti_60, ti_98, ti_99, ti_100, ti_101, ti_103, ti_108, ti_110, ti_114, ti_127]); omega) | (split <;> omega))
        refine ⟨hi130, ?_⟩
        have hz131 := vlt hi130
        intro lg132 em133
        have hI134 : I9 lg132 it108 := by rw [em133]; exact i9_l hI123 (by decide) (by decide) (by decide)
        have hK135 : Kd (fun j => j = 506 ∨ j = 507) (fun k => k = 18 ∨ k = 19 ∨ k = 20 ∨ k = 36 ∨ k = 37) lg0 it0 lg132 it108 := by rw [em133]; exact kd_lr (by decide) (by first | decide | (dsimp only; decide) | omega | (dsimp only; omega)) hK124
        have PT136 : T9 lg132 it108 := T9_c PT125 (by rw [em133]; exact u2_row (by decide)) (by rw [em133]; exact u2_row (by decide)) rfl rfl
        have Pz35137 : ¬ lg132 489 35 = 0 := z_c (Pz35126) (by rw [em133]; exact congrFun (u2_row (by decide)) 35)
        have Pz37138 : ¬ lg132 489 37 = 0 := z_c (Pz37127) (by rw [em133]; exact congrFun (u2_row (by decide)) 37)
        have Pz19139 : ¬ lg132 489 19 = 0 := z_c (Pz19129) (by rw [em133]; exact congrFun (u2_row (by decide)) 19)
        have PX140 : Nx lg132 ((x1 + 1)).toInt := by rw [em133]; exact Nx_s PX128 (cl32 (by omega)) (by first | assumption | (try have := ad32 (x := x1) (y := 1) rfl ti_1 (by omega) (by omega)); omega) (by assumption)
        try have f141 : ((x1 + 1) : Int32).toInt = (x1).toInt + 1 := ad32 (a := (x1).toInt) (b := 1) (rfl) (ti_1) (by omega) (by omega)
        exact ih38 ((x1 + 1)) _ _ hI134 hK135 (by refine ⟨?_, ?_, ?_, ?_, ?_, ?_⟩ <;> first | exact Nx_0 | omega | assumption | exact Or.inl rfl | exact Or.inr rfl | exact i8_1 (by assumption) (by assumption) | decide) (by omega)
  have t142 := ti_0
  exact ⟨_, lp38 ((7 - ((0 : Int32)).toInt).toNat + 1) ((0 : Int32)) _ _ hI73 hK74 (by refine ⟨?_, ?_, ?_, ?_, ?_, ?_⟩ <;> first | exact Nx_0 | omega | assumption | exact Or.inl rfl | exact Or.inr rfl | exact i8_1 (by assumption) (by assumption) | decide) (Nat.lt_succ_self _)⟩
set_option maxRecDepth 100000 in
theorem s_X9_turnsBack (a1 : Int32) (a2 : Int32) {lg0 : LGt} {it0 : ITt} (hI : I9 lg0 it0) (hT : T9 lg0 it0) (hi : 0 ≤ a1.toInt ∧ a1.toInt < (it0 489 0).toInt) : w_X9_turnsBack a1 a2 (fun (lg' : LGt) (it' : ITt) => (I9 lg' it' ∧ Kd (fun j => False) (fun k => k = 18 ∨ k = 19 ∨ k = 20 ∨ k = 38 ∨ k = 39) lg0 it0 lg' it') ∧ ¬ lg' 489 39 = 0)  lg0 it0 := by
  have hb_a1 := And.intro a1.le_toInt a1.toInt_lt
  have hb_a2 := And.intro a2.le_toInt a2.toInt_lt
  have hKr : Kd (fun j => False) (fun k => k = 18 ∨ k = 19 ∨ k = 20 ∨ k = 38 ∨ k = 39) lg0 it0 lg0 it0 := kd_r
  generalize hp : (fun (lg' : LGt) (it' : ITt) => (I9 lg' it' ∧ Kd (fun j => False) (fun k => k = 18 ∨ k = 19 ∨ k = 20 ∨ k = 38 ∨ k = 39) lg0 it0 lg' it') ∧ ¬ lg' 489 39 = 0) = Pz
  unfold w_X9_turnsBack
  have t0 := ti_0
  have t9 := ti_9
  have tm1 := ti_m1
  have f0 := i9_f hI (j := 489) (k := 0) rfl
  have hi29 : vp_in a1 6 := vp_of (by first | omega | ((try simp only [Int32.lt_iff_toInt_lt, Int32.le_iff_toInt_le, ← Int32.toInt_inj, Int32.toInt_toInt64, ti_m14, ti_m13, ti_m12, ti_m11, ti_m10, ti_m9, ti_m6, ti_m5, ti_m4, ti_m3, ti_m2, ti_m1, ti_0, ti_1, ti_2, ti_3, ti_4, ti_5, ti_6, ti_7, ti_8, ti_9, ti_10, ti_11, ti_12, ti_19, ti_20, ti_21, ti_44, ti_45, ti_48, ti_57, ti_59, ti_60, ti_98, ti_99, ti_100, ti_101, ti_103, ti_108, ti_110, ti_114, ti_127]); omega) | (split <;> omega)) (by first | omega | ((try simp only [Int32.lt_iff_toInt_lt, Int32.le_iff_toInt_le, ← Int32.toInt_inj, Int32.toInt_toInt64, ti_m14, ti_m13, ti_m12, ti_m11, ti_m10, ti_m9, ti_m6, ti_m5, ti_m4, ti_m3, ti_m2, ti_m1, ti_0, ti_1, ti_2, ti_3, ti_4, ti_5, ti_6, ti_7, ti_8, ti_9, ti_10, ti_11, ti_12, ti_19, ti_20, ti_21, ti_44, ti_45, ti_48, ti_57, ti_59, ti_60, ti_98, ti_99, ti_100, ti_101, ti_103, ti_108, ti_110, ti_114, ti_127]); omega) | (split <;> omega))
  refine ⟨hi29, ?_⟩
  have hz30 := vlt hi29
  have hi31 : vp_in a1 6 := vp_of (by first | omega | ((try simp only [Int32.lt_iff_toInt_lt, Int32.le_iff_toInt_le, ← Int32.toInt_inj, Int32.toInt_toInt64, ti_m14, ti_m13, ti_m12, ti_m11, ti_m10, ti_m9, ti_m6, ti_m5, ti_m4, ti_m3, ti_m2, ti_m1, ti_0, ti_1, ti_2, ti_3, ti_4, ti_5, ti_6, ti_7, ti_8, ti_9, ti_10, ti_11, ti_12, ti_19, ti_20, ti_21, ti_44, ti_45, ti_48, ti_57, ti_59, ti_60, ti_98, ti_99, ti_100, ti_101, ti_103, ti_108, ti_110, ti_114, ti_127]); omega) | (split <;> omega)) (by first | omega | ((try simp only [Int32.lt_iff_toInt_lt, Int32.le_iff_toInt_le, ← Int32.toInt_inj, Int32.toInt_toInt64, ti_m14, ti_m13, ti_m12, ti_m11, ti_m10, ti_m9, ti_m6, ti_m5, ti_m4, ti_m3, ti_m2, ti_m1, ti_0, ti_1, ti_2, ti_3, ti_4, ti_5, ti_6, ti_7, ti_8, ti_9, ti_10, ti_11, ti_12, ti_19, ti_20, ti_21, ti_44, ti_45, ti_48, ti_57, ti_59, ti_60, ti_98, ti_99, ti_100, ti_101, ti_103, ti_108, ti_110, ti_114, ti_127]); omega) | (split <;> omega))
  refine ⟨hi31, ?_⟩
  have hz32 := vlt hi31
  have hc36 : o01 it0 := i9_o hI
  refine ⟨hc36, ?_⟩
  have hc37 : ¬ (lg0 505 a1.toNatClampNeg) = 0 := (hT (a1).toNatClampNeg (by have z1 := cl32 (i := a1) (by omega); omega) (by have z1 := cl32 (i := a1) (by omega); omega)).1.2
  refine ⟨hc37, ?_⟩
  have hc38 : ¬ (quD a2) = 0 := qd_ne _
  refine ⟨hc38, ?_⟩
  intro q33 em_q33 lg34 em_lg34 it35 em_it35
  have hI39 : I9 lg34 it35 := by rw [em_lg34, em_it35]; exact i9_g hI (by rw [em_q33]; exact gT_o (i9_o hI))
  have hK40 : Kd (fun j => False) (fun k => k = 18 ∨ k = 19 ∨ k = 20 ∨ k = 38 ∨ k = 39) lg0 it0 lg34 it35 := by rw [em_lg34, em_it35]; exact kd_g (by first | decide | (dsimp only; decide) | omega | (dsimp only; omega)) (by first | decide | (dsimp only; decide) | omega | (dsimp only; omega)) (by first | decide | (dsimp only; decide) | omega | (dsimp only; omega)) hKr
  have z19_lg34 : ¬ lg34 489 19 = 0 := by rw [em_lg34, setU_19, em_q33]; exact gT_d hc37 hc38
  have e41 : (it35 489 0).toInt = (it0 489 0).toInt := by rw [em_it35]; exact congrArg Int32.toInt (setO_c (by decide))
  have PT42 : T9 lg34 it35 := T9_c hT (by rw [em_lg34]; exact setU_row (by decide)) (by rw [em_lg34]; exact setU_row (by decide)) (by rw [em_it35]; exact setO_row (by decide)) (by rw [em_it35]; exact setO_c (by decide))
  have hc46 : o01 it35 := i9_o hI39
  refine ⟨hc46, ?_⟩
  have hc47 : ¬ (1 : Int64) = 0 := by decide
  refine ⟨hc47, ?_⟩
  have hc48 : ¬ (lg34 489 19) = 0 := by assumption
  refine ⟨hc48, ?_⟩
  intro q43 em_q43 lg44 em_lg44 it45 em_it45
  have hI49 : I9 lg44 it45 := by rw [em_lg44, em_it45]; exact i9_g hI39 (by rw [em_q43]; exact gL_o (i9_o hI39))
  have hK50 : Kd (fun j => False) (fun k => k = 18 ∨ k = 19 ∨ k = 20 ∨ k = 38 ∨ k = 39) lg0 it0 lg44 it45 := by rw [em_lg44, em_it45]; exact kd_g (by first | decide | (dsimp only; decide) | omega | (dsimp only; omega)) (by first | decide | (dsimp only; decide) | omega | (dsimp only; omega)) (by first | decide | (dsimp only; decide) | omega | (dsimp only; omega)) hK40
  have z19_lg44 : ¬ lg44 489 19 = 0 := by rw [em_lg44, setU_19, em_q43]; exact gL_d hc47 hc48
  try have w_lg44 : ¬ lg44 489 18 = 0 ∨ ¬ it45 489 20 = 0 := by rw [em_lg44, setU_18, em_it45, setO_o, em_q43]; exact less0_up (neg_ne0 (Int64.not_le.mp (by assumption)))
  have e51 : (it45 489 0).toInt = (it35 489 0).toInt := by rw [em_it45]; exact congrArg Int32.toInt (setO_c (by decide))
  have PT52 : T9 lg44 it45 := T9_c PT42 (by rw [em_lg44]; exact setU_row (by decide)) (by rw [em_lg44]; exact setU_row (by decide)) (by rw [em_it45]; exact setO_row (by decide)) (by rw [em_it45]; exact setO_c (by decide))
  intro lg53 em54
  have hI55 : I9 lg53 it45 := by rw [em54]; exact i9_l hI49 (by decide) (by decide) (by decide)
  have hK56 : Kd (fun j => False) (fun k => k = 18 ∨ k = 19 ∨ k = 20 ∨ k = 38 ∨ k = 39) lg0 it0 lg53 it45 := by rw [em54]; exact kd_lf (by first | decide | (dsimp only; decide) | omega | (dsimp only; omega)) hK50
  have PT57 : T9 lg53 it45 := T9_c PT52 (by rw [em54]; exact u2_row (by decide)) (by rw [em54]; exact u2_row (by decide)) rfl rfl
  have Pz1958 : ¬ lg53 489 19 = 0 := z_c (z19_lg44) (by rw [em54]; exact u2_ne (by decide))
  intro lg59 em60
  have hI61 : I9 lg59 it45 := by rw [em60]; exact i9_l hI55 (by decide) (by decide) (by decide)
  have hK62 : Kd (fun j => False) (fun k => k = 18 ∨ k = 19 ∨ k = 20 ∨ k = 38 ∨ k = 39) lg0 it0 lg59 it45 := by rw [em60]; exact kd_lf (by first | decide | (dsimp only; decide) | omega | (dsimp only; omega)) hK56
  have PT63 : T9 lg59 it45 := T9_c PT57 (by rw [em60]; exact u2_row (by decide)) (by rw [em60]; exact u2_row (by decide)) rfl rfl
  have Pz1964 : ¬ lg59 489 19 = 0 := z_c (Pz1958) (by rw [em60]; exact u2_ne (by decide))
  have Pz65 : ¬ lg59 489 39 = 0 := by rw [em60, u2_eq]; exact Pz1958
  subst hp
  exact ⟨⟨hI61, hK62⟩, Pz65⟩
set_option maxRecDepth 100000 in
theorem s_X9_pushes (a1 : Int32) {lg0 : LGt} {it0 : ITt} (hI : I9 lg0 it0) (hT : T9 lg0 it0) (hi : 0 ≤ a1.toInt ∧ a1.toInt + 1 < (it0 489 0).toInt) : w_X9_pushes a1 (fun (lg' : LGt) (it' : ITt) => (I9 lg' it' ∧ Kd (fun j => False) (fun k => k = 18 ∨ k = 19 ∨ k = 20 ∨ k = 38 ∨ k = 39 ∨ k = 40 ∨ k = 41) lg0 it0 lg' it') ∧ (¬ lg' 489 39 = 0 ∧ ¬ lg' 489 41 = 0))  lg0 it0 := by
  have hb_a1 := And.intro a1.le_toInt a1.toInt_lt
  have hKr : Kd (fun j => False) (fun k => k = 18 ∨ k = 19 ∨ k = 20 ∨ k = 38 ∨ k = 39 ∨ k = 40 ∨ k = 41) lg0 it0 lg0 it0 := kd_r
  generalize hp : (fun (lg' : LGt) (it' : ITt) => (I9 lg' it' ∧ Kd (fun j => False) (fun k => k = 18 ∨ k = 19 ∨ k = 20 ∨ k = 38 ∨ k = 39 ∨ k = 40 ∨ k = 41) lg0 it0 lg' it') ∧ (¬ lg' 489 39 = 0 ∧ ¬ lg' 489 41 = 0)) = Pz
  unfold w_X9_pushes
  have t0 := ti_0
  have t9 := ti_9
  have tm1 := ti_m1
  have f0 := i9_f hI (j := 489) (k := 0) rfl
  have f1 : (a1 + 1).toInt = a1.toInt + 1 := ad32 rfl ti_1 (by omega) (by omega)
  have zc := cl32 (i := a1) (by omega)
  have zd := cl32 (i := a1 + 1) (by omega)
  have hm1 := (hT a1.toNatClampNeg (by omega) (by omega)).2
  have hm2 := (hT (a1 + 1).toNatClampNeg (by omega) (by omega)).2
  try have f157 : ((a1 + 1) : Int32).toInt = (a1).toInt + 1 := ad32 (a := (a1).toInt) (b := 1) (rfl) (ti_1) (by omega) (by omega)
  have hi158 : vp_in a1 6 := vp_of (by first | omega | ((try simp only [Int32.lt_iff_toInt_lt, Int32.le_iff_toInt_le, ← Int32.toInt_inj, Int32.toInt_toInt64, ti_m14, ti_m13, ti_m12, ti_m11, ti_m10, ti_m9, ti_m6, ti_m5, ti_m4, ti_m3, ti_m2, ti_m1, ti_0, ti_1, ti_2, ti_3, ti_4, ti_5, ti_6, ti_7, ti_8, ti_9, ti_10, ti_11, ti_12, ti_19, ti_20, ti_21, ti_44, ti_45, ti_48, ti_57, ti_59, ti_60, ti_98, ti_99, ti_100, ti_101, ti_103, ti_108, ti_110, ti_114, ti_127]); omega) | (split <;> omega)) (by first | omega | ((try simp only [Int32.lt_iff_toInt_lt, Int32.le_iff_toInt_le, ← Int32.toInt_inj, Int32.toInt_toInt64, ti_m14, ti_m13, ti_m12, ti_m11, ti_m10, ti_m9, ti_m6, ti_m5, ti_m4, ti_m3, ti_m2, ti_m1, ti_0, ti_1, ti_2, ti_3, ti_4, ti_5, ti_6, ti_7, ti_8, ti_9, ti_10, ti_11, ti_12, ti_19, ti_20, ti_21, ti_44, ti_45, ti_48, ti_57, ti_59, ti_60, ti_98, ti_99, ti_100, ti_101, ti_103, ti_108, ti_110, ti_114, ti_127]); omega) | (split <;> omega))
  refine ⟨hi158, ?_⟩
  have hz159 := vlt hi158
  have hi160 : vp_in (a1 + 1) 6 := vp_of (by first | omega | ((try simp only [Int32.lt_iff_toInt_lt, Int32.le_iff_toInt_le, ← Int32.toInt_inj, Int32.toInt_toInt64, ti_m14, ti_m13, ti_m12, ti_m11, ti_m10, ti_m9, ti_m6, ti_m5, ti_m4, ti_m3, ti_m2, ti_m1, ti_0, ti_1, ti_2, ti_3, ti_4, ti_5, ti_6, ti_7, ti_8, ti_9, ti_10, ti_11, ti_12, ti_19, ti_20, ti_21, ti_44, ti_45, ti_48, ti_57, ti_59, ti_60, ti_98, ti_99, ti_100, ti_101, ti_103, ti_108, ti_110, ti_114, ti_127]); omega) | (split <;> omega)) (by first | omega | ((try simp only [Int32.lt_iff_toInt_lt, Int32.le_iff_toInt_le, ← Int32.toInt_inj, Int32.toInt_toInt64, ti_m14, ti_m13, ti_m12, ti_m11, ti_m10, ti_m9, ti_m6, ti_m5, ti_m4, ti_m3, ti_m2, ti_m1, ti_0, ti_1, ti_2, ti_3, ti_4, ti_5, ti_6, ti_7, ti_8, ti_9, ti_10, ti_11, ti_12, ti_19, ti_20, ti_21, ti_44, ti_45, ti_48, ti_57, ti_59, ti_60, ti_98, ti_99, ti_100, ti_101, ti_103, ti_108, ti_110, ti_114, ti_127]); omega) | (split <;> omega))
  refine ⟨hi160, ?_⟩
  have hz161 := vlt hi160
  try have f162 : (((it0 501 a1.toNatClampNeg) + (it0 501 (a1 + 1).toNatClampNeg)) : Int32).toInt = ((it0 501 a1.toNatClampNeg)).toInt + ((it0 501 (a1 + 1).toNatClampNeg)).toInt := ad32 (a := ((it0 501 a1.toNatClampNeg)).toInt) (b := ((it0 501 (a1 + 1).toNatClampNeg)).toInt) (rfl) (rfl) (by omega) (by omega)
  have hi163 : vp_in a1 6 := vp_of (by first | omega | ((try simp only [Int32.lt_iff_toInt_lt, Int32.le_iff_toInt_le, ← Int32.toInt_inj, Int32.toInt_toInt64, ti_m14, ti_m13, ti_m12, ti_m11, ti_m10, ti_m9, ti_m6, ti_m5, ti_m4, ti_m3, ti_m2, ti_m1, ti_0, ti_1, ti_2, ti_3, ti_4, ti_5, ti_6, ti_7, ti_8, ti_9, ti_10, ti_11, ti_12, ti_19, ti_20, ti_21, ti_44, ti_45, ti_48, ti_57, ti_59, ti_60, ti_98, ti_99, ti_100, ti_101, ti_103, ti_108, ti_110, ti_114, ti_127]); omega) | (split <;> omega)) (by first | omega | ((try simp only [Int32.lt_iff_toInt_lt, Int32.le_iff_toInt_le, ← Int32.toInt_inj, Int32.toInt_toInt64, ti_m14, ti_m13, ti_m12, ti_m11, ti_m10, ti_m9, ti_m6, ti_m5, ti_m4, ti_m3, ti_m2, ti_m1, ti_0, ti_1, ti_2, ti_3, ti_4, ti_5, ti_6, ti_7, ti_8, ti_9, ti_10, ti_11, ti_12, ti_19, ti_20, ti_21, ti_44, ti_45, ti_48, ti_57, ti_59, ti_60, ti_98, ti_99, ti_100, ti_101, ti_103, ti_108, ti_110, ti_114, ti_127]); omega) | (split <;> omega))
  refine ⟨hi163, ?_⟩
  have hz164 := vlt hi163
  have hi165 : vp_in a1 6 := vp_of (by first | omega | ((try simp only [Int32.lt_iff_toInt_lt, Int32.le_iff_toInt_le, ← Int32.toInt_inj, Int32.toInt_toInt64, ti_m14, ti_m13, ti_m12, ti_m11, ti_m10, ti_m9, ti_m6, ti_m5, ti_m4, ti_m3, ti_m2, ti_m1, ti_0, ti_1, ti_2, ti_3, ti_4, ti_5, ti_6, ti_7, ti_8, ti_9, ti_10, ti_11, ti_12, ti_19, ti_20, ti_21, ti_44, ti_45, ti_48, ti_57, ti_59, ti_60, ti_98, ti_99, ti_100, ti_101, ti_103, ti_108, ti_110, ti_114, ti_127]); omega) | (split <;> omega)) (by first | omega | ((try simp only [Int32.lt_iff_toInt_lt, Int32.le_iff_toInt_le, ← Int32.toInt_inj, Int32.toInt_toInt64, ti_m14, ti_m13, ti_m12, ti_m11, ti_m10, ti_m9, ti_m6, ti_m5, ti_m4, ti_m3, ti_m2, ti_m1, ti_0, ti_1, ti_2, ti_3, ti_4, ti_5, ti_6, ti_7, ti_8, ti_9, ti_10, ti_11, ti_12, ti_19, ti_20, ti_21, ti_44, ti_45, ti_48, ti_57, ti_59, ti_60, ti_98, ti_99, ti_100, ti_101, ti_103, ti_108, ti_110, ti_114, ti_127]); omega) | (split <;> omega))
  refine ⟨hi165, ?_⟩
  have hz166 := vlt hi165
  have hi167 : vp_in a1 6 := vp_of (by first | omega | ((try simp only [Int32.lt_iff_toInt_lt, Int32.le_iff_toInt_le, ← Int32.toInt_inj, Int32.toInt_toInt64, ti_m14, ti_m13, ti_m12, ti_m11, ti_m10, ti_m9, ti_m6, ti_m5, ti_m4, ti_m3, ti_m2, ti_m1, ti_0, ti_1, ti_2, ti_3, ti_4, ti_5, ti_6, ti_7, ti_8, ti_9, ti_10, ti_11, ti_12, ti_19, ti_20, ti_21, ti_44, ti_45, ti_48, ti_57, ti_59, ti_60, ti_98, ti_99, ti_100, ti_101, ti_103, ti_108, ti_110, ti_114, ti_127]); omega) | (split <;> omega)) (by first | omega | ((try simp only [Int32.lt_iff_toInt_lt, Int32.le_iff_toInt_le, ← Int32.toInt_inj, Int32.toInt_toInt64, ti_m14, ti_m13, ti_m12, ti_m11, ti_m10, ti_m9, ti_m6, ti_m5, ti_m4, ti_m3, ti_m2, ti_m1, ti_0, ti_1, ti_2, ti_3, ti_4, ti_5, ti_6, ti_7, ti_8, ti_9, ti_10, ti_11, ti_12, ti_19, ti_20, ti_21, ti_44, ti_45, ti_48, ti_57, ti_59, ti_60, ti_98, ti_99, ti_100, ti_101, ti_103, ti_108, ti_110, ti_114, ti_127]); omega) | (split <;> omega))
  refine ⟨hi167, ?_⟩
  have hz168 := vlt hi167
  have hc172 : o01 it0 := i9_o hI
  refine ⟨hc172, ?_⟩
  have hc173 : ¬ (lg0 505 a1.toNatClampNeg) = 0 := (hT (a1).toNatClampNeg (by have z1 := cl32 (i := a1) (by omega); omega) (by have z1 := cl32 (i := a1) (by omega); omega)).1.2
  refine ⟨hc173, ?_⟩
  have hc174 : ¬ (1 : Int64) = 0 := by decide
  refine ⟨hc174, ?_⟩
  intro q169 em_q169 lg170 em_lg170 it171 em_it171
  have hI175 : I9 lg170 it171 := by rw [em_lg170, em_it171]; exact i9_g hI (by rw [em_q169]; exact gT_o (i9_o hI))
  have hK176 : Kd (fun j => False) (fun k => k = 18 ∨ k = 19 ∨ k = 20 ∨ k = 38 ∨ k = 39 ∨ k = 40 ∨ k = 41) lg0 it0 lg170 it171 := by rw [em_lg170, em_it171]; exact kd_g (by first | decide | (dsimp only; decide) | omega | (dsimp only; omega)) (by first | decide | (dsimp only; decide) | omega | (dsimp only; omega)) (by first | decide | (dsimp only; decide) | omega | (dsimp only; omega)) hKr
  have z19_lg170 : ¬ lg170 489 19 = 0 := by rw [em_lg170, setU_19, em_q169]; exact gT_d hc173 hc174
  have e177 : (it171 489 0).toInt = (it0 489 0).toInt := by rw [em_it171]; exact congrArg Int32.toInt (setO_c (by decide))
  have PT178 : T9 lg170 it171 := T9_c hT (by rw [em_lg170]; exact setU_row (by decide)) (by rw [em_lg170]; exact setU_row (by decide)) (by rw [em_it171]; exact setO_row (by decide)) (by rw [em_it171]; exact setO_c (by decide))
  have hi179 : vp_in (a1 + 1) 6 := vp_of (by first | omega | ((try simp only [Int32.lt_iff_toInt_lt, Int32.le_iff_toInt_le, ← Int32.toInt_inj, Int32.toInt_toInt64, ti_m14, ti_m13, ti_m12, ti_m11, ti_m10, ti_m9, ti_m6, ti_m5, ti_m4, ti_m3, ti_m2, ti_m1, ti_0, ti_1, ti_2, ti_3, ti_4, ti_5, ti_6, ti_7, ti_8, ti_9, ti_10, ti_11, ti_12, ti_19, ti_20, ti_21, ti_44, ti_45, ti_48, ti_57, ti_59, ti_60, ti_98, ti_99, ti_100, ti_101, ti_103, ti_108, ti_110, ti_114, ti_127]); omega) | (split <;> omega)) (by first | omega | ((try simp only [Int32.lt_iff_toInt_lt, Int32.le_iff_toInt_le, ← Int32.toInt_inj, Int32.toInt_toInt64, ti_m14, ti_m13, ti_m12, ti_m11, ti_m10, ti_m9, ti_m6, ti_m5, ti_m4, ti_m3, ti_m2, ti_m1, ti_0, ti_1, ti_2, ti_3, ti_4, ti_5, ti_6, ti_7, ti_8, ti_9, ti_10, ti_11, ti_12, ti_19, ti_20, ti_21, ti_44, ti_45, ti_48, ti_57, ti_59, ti_60, ti_98, ti_99, ti_100, ti_101, ti_103, ti_108, ti_110, ti_114, ti_127]); omega) | (split <;> omega))
  refine ⟨hi179, ?_⟩
  have hz180 := vlt hi179
  have hi181 : vp_in (a1 + 1) 6 := vp_of (by first | omega | ((try simp only [Int32.lt_iff_toInt_lt, Int32.le_iff_toInt_le, ← Int32.toInt_inj, Int32.toInt_toInt64, ti_m14, ti_m13, ti_m12, ti_m11, ti_m10, ti_m9, ti_m6, ti_m5, ti_m4, ti_m3, ti_m2, ti_m1, ti_0, ti_1, ti_2, ti_3, ti_4, ti_5, ti_6, ti_7, ti_8, ti_9, ti_10, ti_11, ti_12, ti_19, ti_20, ti_21, ti_44, ti_45, ti_48, ti_57, ti_59, ti_60, ti_98, ti_99, ti_100, ti_101, ti_103, ti_108, ti_110, ti_114, ti_127]); omega) | (split <;> omega)) (by first | omega | ((try simp only [Int32.lt_iff_toInt_lt, Int32.le_iff_toInt_le, ← Int32.toInt_inj, Int32.toInt_toInt64, ti_m14, ti_m13, ti_m12, ti_m11, ti_m10, ti_m9, ti_m6, ti_m5, ti_m4, ti_m3, ti_m2, ti_m1, ti_0, ti_1, ti_2, ti_3, ti_4, ti_5, ti_6, ti_7, ti_8, ti_9, ti_10, ti_11, ti_12, ti_19, ti_20, ti_21, ti_44, ti_45, ti_48, ti_57, ti_59, ti_60, ti_98, ti_99, ti_100, ti_101, ti_103, ti_108, ti_110, ti_114, ti_127]); omega) | (split <;> omega))
  refine ⟨hi181, ?_⟩
  have hz182 := vlt hi181
  have hi183 : vp_in (a1 + 1) 6 := vp_of (by first | omega | ((try simp only [Int32.lt_iff_toInt_lt, Int32.le_iff_toInt_le, ← Int32.toInt_inj, Int32.toInt_toInt64, ti_m14, ti_m13, ti_m12, ti_m11, ti_m10, ti_m9, ti_m6, ti_m5, ti_m4, ti_m3, ti_m2, ti_m1, ti_0, ti_1, ti_2, ti_3, ti_4, ti_5, ti_6, ti_7, ti_8, ti_9, ti_10, ti_11, ti_12, ti_19, ti_20, ti_21, ti_44, ti_45, ti_48, ti_57, ti_59, ti_60, ti_98, ti_99, ti_100, ti_101, ti_103, ti_108, ti_110, ti_114, ti_127]); omega) | (split <;> omega)) (by first | omega | ((try simp only [Int32.lt_iff_toInt_lt, Int32.le_iff_toInt_le, ← Int32.toInt_inj, Int32.toInt_toInt64, ti_m14, ti_m13, ti_m12, ti_m11, ti_m10, ti_m9, ti_m6, ti_m5, ti_m4, ti_m3, ti_m2, ti_m1, ti_0, ti_1, ti_2, ti_3, ti_4, ti_5, ti_6, ti_7, ti_8, ti_9, ti_10, ti_11, ti_12, ti_19, ti_20, ti_21, ti_44, ti_45, ti_48, ti_57, ti_59, ti_60, ti_98, ti_99, ti_100, ti_101, ti_103, ti_108, ti_110, ti_114, ti_127]); omega) | (split <;> omega))
  refine ⟨hi183, ?_⟩
  have hz184 := vlt hi183
  have hc188 : o01 it171 := i9_o hI175
  refine ⟨hc188, ?_⟩
  have hc189 : ¬ (lg170 505 (a1 + 1).toNatClampNeg) = 0 := (PT178 ((a1 + 1)).toNatClampNeg (by have z1 := cl32 (i := (a1 + 1)) (by omega); omega) (by have z1 := cl32 (i := (a1 + 1)) (by omega); omega)).1.2
  refine ⟨hc189, ?_⟩
  have hc190 : ¬ (1 : Int64) = 0 := by decide
  refine ⟨hc190, ?_⟩
  intro q185 em_q185 lg186 em_lg186 it187 em_it187
  have hI191 : I9 lg186 it187 := by rw [em_lg186, em_it187]; exact i9_g hI175 (by rw [em_q185]; exact gT_o (i9_o hI175))
  have hK192 : Kd (fun j => False) (fun k => k = 18 ∨ k = 19 ∨ k = 20 ∨ k = 38 ∨ k = 39 ∨ k = 40 ∨ k = 41) lg0 it0 lg186 it187 := by rw [em_lg186, em_it187]; exact kd_g (by first | decide | (dsimp only; decide) | omega | (dsimp only; omega)) (by first | decide | (dsimp only; decide) | omega | (dsimp only; omega)) (by first | decide | (dsimp only; decide) | omega | (dsimp only; omega)) hK176
  have z19_lg186 : ¬ lg186 489 19 = 0 := by rw [em_lg186, setU_19, em_q185]; exact gT_d hc189 hc190
  have e193 : (it187 489 0).toInt = (it171 489 0).toInt := by rw [em_it187]; exact congrArg Int32.toInt (setO_c (by decide))
  have PT194 : T9 lg186 it187 := T9_c PT178 (by rw [em_lg186]; exact setU_row (by decide)) (by rw [em_lg186]; exact setU_row (by decide)) (by rw [em_it187]; exact setO_row (by decide)) (by rw [em_it187]; exact setO_c (by decide))
  have hc198 : o01 it187 := i9_o hI191
  refine ⟨hc198, ?_⟩
  have hc199 : ¬ (lg170 489 19) = 0 := by assumption
  refine ⟨hc199, ?_⟩
  have hc200 : ¬ (lg186 489 19) = 0 := by assumption
  refine ⟨hc200, ?_⟩
  intro q195 em_q195 lg196 em_lg196 it197 em_it197
  have hI201 : I9 lg196 it197 := by rw [em_lg196, em_it197]; exact i9_g hI191 (by rw [em_q195]; exact gP_o (i9_o hI191))
  have hK202 : Kd (fun j => False) (fun k => k = 18 ∨ k = 19 ∨ k = 20 ∨ k = 38 ∨ k = 39 ∨ k = 40 ∨ k = 41) lg0 it0 lg196 it197 := by rw [em_lg196, em_it197]; exact kd_g (by first | decide | (dsimp only; decide) | omega | (dsimp only; omega)) (by first | decide | (dsimp only; decide) | omega | (dsimp only; omega)) (by first | decide | (dsimp only; decide) | omega | (dsimp only; omega)) hK192
  have z19_lg196 : ¬ lg196 489 19 = 0 := by rw [em_lg196, setU_19, em_q195]; exact gP_d hc199 hc200
  have e203 : (it197 489 0).toInt = (it187 489 0).toInt := by rw [em_it197]; exact congrArg Int32.toInt (setO_c (by decide))
  have PT204 : T9 lg196 it197 := T9_c PT194 (by rw [em_lg196]; exact setU_row (by decide)) (by rw [em_lg196]; exact setU_row (by decide)) (by rw [em_it197]; exact setO_row (by decide)) (by rw [em_it197]; exact setO_c (by decide))
  have hc208 : o01 it197 := i9_o hI201
  refine ⟨hc208, ?_⟩
  have hc209 : ¬ (lg196 489 19) = 0 := by assumption
  refine ⟨hc209, ?_⟩
  have hc210 : (¬ ((it0 501 a1.toNatClampNeg) + (it0 501 (a1 + 1).toNatClampNeg)).toInt64 = 0) ∨ (¬ it197 489 20 = 0) := by first | assumption | exact Or.inl (by assumption) | exact Or.inl (pos_ne (by assumption)) | exact Or.inl (pos_ne (Int64.not_le.mp (by assumption))) | (rw [em_lg196, setU_row (by decide), em_it197, setO_c (by decide)]; exact Or.inl (pos_ne (Int64.not_le.mp (by assumption)))) | exact Or.inl (i64_ne (by (try simp only [Int32.lt_iff_toInt_lt, Int32.le_iff_toInt_le, ← Int32.toInt_inj, Int32.toInt_toInt64, ti_m14, ti_m13, ti_m12, ti_m11, ti_m10, ti_m9, ti_m6, ti_m5, ti_m4, ti_m3, ti_m2, ti_m1, ti_0, ti_1, ti_2, ti_3, ti_4, ti_5, ti_6, ti_7, ti_8, ti_9, ti_10, ti_11, ti_12, ti_19, ti_20, ti_21, ti_44, ti_45, ti_48, ti_57, ti_59, ti_60, ti_98, ti_99, ti_100, ti_101, ti_103, ti_108, ti_110, ti_114, ti_127]); omega))
  refine ⟨hc210, ?_⟩
  intro q205 em_q205 lg206 em_lg206 it207 em_it207
  have hI211 : I9 lg206 it207 := by rw [em_lg206, em_it207]; exact i9_g hI201 (by rw [em_q205]; exact gB_o (i9_o hI201))
  have hK212 : Kd (fun j => False) (fun k => k = 18 ∨ k = 19 ∨ k = 20 ∨ k = 38 ∨ k = 39 ∨ k = 40 ∨ k = 41) lg0 it0 lg206 it207 := by rw [em_lg206, em_it207]; exact kd_g (by first | decide | (dsimp only; decide) | omega | (dsimp only; omega)) (by first | decide | (dsimp only; decide) | omega | (dsimp only; omega)) (by first | decide | (dsimp only; decide) | omega | (dsimp only; omega)) hK202
  have z19_lg206 : ¬ lg206 489 19 = 0 := by rw [em_lg206, setU_19, em_q205]; exact gB_d hc209 hc210
  have e213 : (it207 489 0).toInt = (it197 489 0).toInt := by rw [em_it207]; exact congrArg Int32.toInt (setO_c (by decide))
  have PT214 : T9 lg206 it207 := T9_c PT204 (by rw [em_lg206]; exact setU_row (by decide)) (by rw [em_lg206]; exact setU_row (by decide)) (by rw [em_it207]; exact setO_row (by decide)) (by rw [em_it207]; exact setO_c (by decide))
  have hi215 : vp_in a1 6 := vp_of (by first | omega | ((try simp only [Int32.lt_iff_toInt_lt, Int32.le_iff_toInt_le, ← Int32.toInt_inj, Int32.toInt_toInt64, ti_m14, ti_m13, ti_m12, ti_m11, ti_m10, ti_m9, ti_m6, ti_m5, ti_m4, ti_m3, ti_m2, ti_m1, ti_0, ti_1, ti_2, ti_3, ti_4, ti_5, ti_6, ti_7, ti_8, ti_9, ti_10, ti_11, ti_12, ti_19, ti_20, ti_21, ti_44, ti_45, ti_48, ti_57, ti_59, ti_60, ti_98, ti_99, ti_100, ti_101, ti_103, ti_108, ti_110, ti_114, ti_127]); omega) | (split <;> omega)) (by first | omega | ((try simp only [Int32.lt_iff_toInt_lt, Int32.le_iff_toInt_le, ← Int32.toInt_inj, Int32.toInt_toInt64, ti_m14, ti_m13, ti_m12, ti_m11, ti_m10, ti_m9, ti_m6, ti_m5, ti_m4, ti_m3, ti_m2, ti_m1, ti_0, ti_1, ti_2, ti_3, ti_4, ti_5, ti_6, ti_7, ti_8, ti_9, ti_10, ti_11, ti_12, ti_19, ti_20, ti_21, ti_44, ti_45, ti_48, ti_57, ti_59, ti_60, ti_98, ti_99, ti_100, ti_101, ti_103, ti_108, ti_110, ti_114, ti_127]); omega) | (split <;> omega))
  refine ⟨hi215, ?_⟩
  have hz216 := vlt hi215
  have hi217 : vp_in a1 6 := vp_of (by first | omega | ((try simp only [Int32.lt_iff_toInt_lt, Int32.le_iff_toInt_le, ← Int32.toInt_inj, Int32.toInt_toInt64, ti_m14, ti_m13, ti_m12, ti_m11, ti_m10, ti_m9, ti_m6, ti_m5, ti_m4, ti_m3, ti_m2, ti_m1, ti_0, ti_1, ti_2, ti_3, ti_4, ti_5, ti_6, ti_7, ti_8, ti_9, ti_10, ti_11, ti_12, ti_19, ti_20, ti_21, ti_44, ti_45, ti_48, ti_57, ti_59, ti_60, ti_98, ti_99, ti_100, ti_101, ti_103, ti_108, ti_110, ti_114, ti_127]); omega) | (split <;> omega)) (by first | omega | ((try simp only [Int32.lt_iff_toInt_lt, Int32.le_iff_toInt_le, ← Int32.toInt_inj, Int32.toInt_toInt64, ti_m14, ti_m13, ti_m12, ti_m11, ti_m10, ti_m9, ti_m6, ti_m5, ti_m4, ti_m3, ti_m2, ti_m1, ti_0, ti_1, ti_2, ti_3, ti_4, ti_5, ti_6, ti_7, ti_8, ti_9, ti_10, ti_11, ti_12, ti_19, ti_20, ti_21, ti_44, ti_45, ti_48, ti_57, ti_59, ti_60, ti_98, ti_99, ti_100, ti_101, ti_103, ti_108, ti_110, ti_114, ti_127]); omega) | (split <;> omega))
  refine ⟨hi217, ?_⟩
  have hz218 := vlt hi217
  have hi219 : vp_in (a1 + 1) 6 := vp_of (by first | omega | ((try simp only [Int32.lt_iff_toInt_lt, Int32.le_iff_toInt_le, ← Int32.toInt_inj, Int32.toInt_toInt64, ti_m14, ti_m13, ti_m12, ti_m11, ti_m10, ti_m9, ti_m6, ti_m5, ti_m4, ti_m3, ti_m2, ti_m1, ti_0, ti_1, ti_2, ti_3, ti_4, ti_5, ti_6, ti_7, ti_8, ti_9, ti_10, ti_11, ti_12, ti_19, ti_20, ti_21, ti_44, ti_45, ti_48, ti_57, ti_59, ti_60, ti_98, ti_99, ti_100, ti_101, ti_103, ti_108, ti_110, ti_114, ti_127]); omega) | (split <;> omega)) (by first | omega | ((try simp only [Int32.lt_iff_toInt_lt, Int32.le_iff_toInt_le, ← Int32.toInt_inj, Int32.toInt_toInt64, ti_m14, ti_m13, ti_m12, ti_m11, ti_m10, ti_m9, ti_m6, ti_m5, ti_m4, ti_m3, ti_m2, ti_m1, ti_0, ti_1, ti_2, ti_3, ti_4, ti_5, ti_6, ti_7, ti_8, ti_9, ti_10, ti_11, ti_12, ti_19, ti_20, ti_21, ti_44, ti_45, ti_48, ti_57, ti_59, ti_60, ti_98, ti_99, ti_100, ti_101, ti_103, ti_108, ti_110, ti_114, ti_127]); omega) | (split <;> omega))
  refine ⟨hi219, ?_⟩
  have hz220 := vlt hi219
  have hi221 : vp_in (a1 + 1) 6 := vp_of (by first | omega | ((try simp only [Int32.lt_iff_toInt_lt, Int32.le_iff_toInt_le, ← Int32.toInt_inj, Int32.toInt_toInt64, ti_m14, ti_m13, ti_m12, ti_m11, ti_m10, ti_m9, ti_m6, ti_m5, ti_m4, ti_m3, ti_m2, ti_m1, ti_0, ti_1, ti_2, ti_3, ti_4, ti_5, ti_6, ti_7, ti_8, ti_9, ti_10, ti_11, ti_12, ti_19, ti_20, ti_21, ti_44, ti_45, ti_48, ti_57, ti_59, ti_60, ti_98, ti_99, ti_100, ti_101, ti_103, ti_108, ti_110, ti_114, ti_127]); omega) | (split <;> omega)) (by first | omega | ((try simp only [Int32.lt_iff_toInt_lt, Int32.le_iff_toInt_le, ← Int32.toInt_inj, Int32.toInt_toInt64, ti_m14, ti_m13, ti_m12, ti_m11, ti_m10, ti_m9, ti_m6, ti_m5, ti_m4, ti_m3, ti_m2, ti_m1, ti_0, ti_1, ti_2, ti_3, ti_4, ti_5, ti_6, ti_7, ti_8, ti_9, ti_10, ti_11, ti_12, ti_19, ti_20, ti_21, ti_44, ti_45, ti_48, ti_57, ti_59, ti_60, ti_98, ti_99, ti_100, ti_101, ti_103, ti_108, ti_110, ti_114, ti_127]); omega) | (split <;> omega))
  refine ⟨hi221, ?_⟩
  have hz222 := vlt hi221
  have hc226 : o01 it207 := i9_o hI211
  refine ⟨hc226, ?_⟩
  have hc227 : ¬ (lg206 505 a1.toNatClampNeg) = 0 := (PT214 (a1).toNatClampNeg (by have z1 := cl32 (i := a1) (by omega); omega) (by have z1 := cl32 (i := a1) (by omega); omega)).1.2
  refine ⟨hc227, ?_⟩
  have hc228 : ¬ (lg206 505 (a1 + 1).toNatClampNeg) = 0 := (PT214 ((a1 + 1)).toNatClampNeg (by have z1 := cl32 (i := (a1 + 1)) (by omega); omega) (by have z1 := cl32 (i := (a1 + 1)) (by omega); omega)).1.2
  refine ⟨hc228, ?_⟩
  intro q223 em_q223 lg224 em_lg224 it225 em_it225
  have hI229 : I9 lg224 it225 := by rw [em_lg224, em_it225]; exact i9_g hI211 (by rw [em_q223]; exact gL_o (i9_o hI211))
  have hK230 : Kd (fun j => False) (fun k => k = 18 ∨ k = 19 ∨ k = 20 ∨ k = 38 ∨ k = 39 ∨ k = 40 ∨ k = 41) lg0 it0 lg224 it225 := by rw [em_lg224, em_it225]; exact kd_g (by first | decide | (dsimp only; decide) | omega | (dsimp only; omega)) (by first | decide | (dsimp only; decide) | omega | (dsimp only; omega)) (by first | decide | (dsimp only; decide) | omega | (dsimp only; omega)) hK212
  have z19_lg224 : ¬ lg224 489 19 = 0 := by rw [em_lg224, setU_19, em_q223]; exact gL_d hc227 hc228
  have e231 : (it225 489 0).toInt = (it207 489 0).toInt := by rw [em_it225]; exact congrArg Int32.toInt (setO_c (by decide))
  have PT232 : T9 lg224 it225 := T9_c PT214 (by rw [em_lg224]; exact setU_row (by decide)) (by rw [em_lg224]; exact setU_row (by decide)) (by rw [em_it225]; exact setO_row (by decide)) (by rw [em_it225]; exact setO_c (by decide))
  have hc236 : o01 it225 := i9_o hI229
  refine ⟨hc236, ?_⟩
  have hc237 : ¬ (lg224 489 19) = 0 := by assumption
  refine ⟨hc237, ?_⟩
  have hc238 : ¬ (quD (it225 489 30)) = 0 := qd_ne _
  refine ⟨hc238, ?_⟩
  intro q233 em_q233 lg234 em_lg234 it235 em_it235
  have hI239 : I9 lg234 it235 := by rw [em_lg234, em_it235]; exact i9_g hI229 (by rw [em_q233]; exact gT_o (i9_o hI229))
  have hK240 : Kd (fun j => False) (fun k => k = 18 ∨ k = 19 ∨ k = 20 ∨ k = 38 ∨ k = 39 ∨ k = 40 ∨ k = 41) lg0 it0 lg234 it235 := by rw [em_lg234, em_it235]; exact kd_g (by first | decide | (dsimp only; decide) | omega | (dsimp only; omega)) (by first | decide | (dsimp only; decide) | omega | (dsimp only; omega)) (by first | decide | (dsimp only; decide) | omega | (dsimp only; omega)) hK230
  have z19_lg234 : ¬ lg234 489 19 = 0 := by rw [em_lg234, setU_19, em_q233]; exact gT_d hc237 hc238
  have e241 : (it235 489 0).toInt = (it225 489 0).toInt := by rw [em_it235]; exact congrArg Int32.toInt (setO_c (by decide))
  have e242 : (it235 489 30).toInt = (it225 489 30).toInt := by rw [em_it235]; exact congrArg Int32.toInt (setO_c (by decide))
  have PT243 : T9 lg234 it235 := T9_c PT232 (by rw [em_lg234]; exact setU_row (by decide)) (by rw [em_lg234]; exact setU_row (by decide)) (by rw [em_it235]; exact setO_row (by decide)) (by rw [em_it235]; exact setO_c (by decide))
  have hi244 : vp_in (a1 + 1) 6 := vp_of (by first | omega | ((try simp only [Int32.lt_iff_toInt_lt, Int32.le_iff_toInt_le, ← Int32.toInt_inj, Int32.toInt_toInt64, ti_m14, ti_m13, ti_m12, ti_m11, ti_m10, ti_m9, ti_m6, ti_m5, ti_m4, ti_m3, ti_m2, ti_m1, ti_0, ti_1, ti_2, ti_3, ti_4, ti_5, ti_6, ti_7, ti_8, ti_9, ti_10, ti_11, ti_12, ti_19, ti_20, ti_21, ti_44, ti_45, ti_48, ti_57, ti_59, ti_60, ti_98, ti_99, ti_100, ti_101, ti_103, ti_108, ti_110, ti_114, ti_127]); omega) | (split <;> omega)) (by first | omega | ((try simp only [Int32.lt_iff_toInt_lt, Int32.le_iff_toInt_le, ← Int32.toInt_inj, Int32.toInt_toInt64, ti_m14, ti_m13, ti_m12, ti_m11, ti_m10, ti_m9, ti_m6, ti_m5, ti_m4, ti_m3, ti_m2, ti_m1, ti_0, ti_1, ti_2, ti_3, ti_4, ti_5, ti_6, ti_7, ti_8, ti_9, ti_10, ti_11, ti_12, ti_19, ti_20, ti_21, ti_44, ti_45, ti_48, ti_57, ti_59, ti_60, ti_98, ti_99, ti_100, ti_101, ti_103, ti_108, ti_110, ti_114, ti_127]); omega) | (split <;> omega))
  refine ⟨hi244, ?_⟩
  have hz245 := vlt hi244
  have hc249 : o01 it235 := i9_o hI239
  refine ⟨hc249, ?_⟩
  have hc250 : ¬ (lg234 489 19) = 0 := by assumption
  refine ⟨hc250, ?_⟩
  have hc251 : ¬ (1 : Int64) = 0 := by decide
  refine ⟨hc251, ?_⟩
  intro q246 em_q246 lg247 em_lg247 it248 em_it248
  have hI252 : I9 lg247 it248 := by rw [em_lg247, em_it248]; exact i9_g hI239 (by rw [em_q246]; exact gT_o (i9_o hI239))
  have hK253 : Kd (fun j => False) (fun k => k = 18 ∨ k = 19 ∨ k = 20 ∨ k = 38 ∨ k = 39 ∨ k = 40 ∨ k = 41) lg0 it0 lg247 it248 := by rw [em_lg247, em_it248]; exact kd_g (by first | decide | (dsimp only; decide) | omega | (dsimp only; omega)) (by first | decide | (dsimp only; decide) | omega | (dsimp only; omega)) (by first | decide | (dsimp only; decide) | omega | (dsimp only; omega)) hK240
  have z19_lg247 : ¬ lg247 489 19 = 0 := by rw [em_lg247, setU_19, em_q246]; exact gT_d hc250 hc251
  have e254 : (it248 489 0).toInt = (it235 489 0).toInt := by rw [em_it248]; exact congrArg Int32.toInt (setO_c (by decide))
  have e255 : (it248 489 30).toInt = (it235 489 30).toInt := by rw [em_it248]; exact congrArg Int32.toInt (setO_c (by decide))
  have PT256 : T9 lg247 it248 := T9_c PT243 (by rw [em_lg247]; exact setU_row (by decide)) (by rw [em_lg247]; exact setU_row (by decide)) (by rw [em_it248]; exact setO_row (by decide)) (by rw [em_it248]; exact setO_c (by decide))
  have hc260 : o01 it248 := i9_o hI252
  refine ⟨hc260, ?_⟩
  have hc261 : ¬ (lg247 489 19) = 0 := by assumption
  refine ⟨hc261, ?_⟩
  have hc262 : (¬ ((it0 501 a1.toNatClampNeg) + (it0 501 (a1 + 1).toNatClampNeg)).toInt64 = 0) ∨ (¬ it248 489 20 = 0) := by first | assumption | exact Or.inl (by assumption) | exact Or.inl (pos_ne (by assumption)) | exact Or.inl (pos_ne (Int64.not_le.mp (by assumption))) | (rw [em_lg247, setU_row (by decide), em_it248, setO_c (by decide)]; exact Or.inl (pos_ne (Int64.not_le.mp (by assumption)))) | exact Or.inl (i64_ne (by (try simp only [Int32.lt_iff_toInt_lt, Int32.le_iff_toInt_le, ← Int32.toInt_inj, Int32.toInt_toInt64, ti_m14, ti_m13, ti_m12, ti_m11, ti_m10, ti_m9, ti_m6, ti_m5, ti_m4, ti_m3, ti_m2, ti_m1, ti_0, ti_1, ti_2, ti_3, ti_4, ti_5, ti_6, ti_7, ti_8, ti_9, ti_10, ti_11, ti_12, ti_19, ti_20, ti_21, ti_44, ti_45, ti_48, ti_57, ti_59, ti_60, ti_98, ti_99, ti_100, ti_101, ti_103, ti_108, ti_110, ti_114, ti_127]); omega))
  refine ⟨hc262, ?_⟩
  intro q257 em_q257 lg258 em_lg258 it259 em_it259
  have hI263 : I9 lg258 it259 := by rw [em_lg258, em_it259]; exact i9_g hI252 (by rw [em_q257]; exact gB_o (i9_o hI252))
  have hK264 : Kd (fun j => False) (fun k => k = 18 ∨ k = 19 ∨ k = 20 ∨ k = 38 ∨ k = 39 ∨ k = 40 ∨ k = 41) lg0 it0 lg258 it259 := by rw [em_lg258, em_it259]; exact kd_g (by first | decide | (dsimp only; decide) | omega | (dsimp only; omega)) (by first | decide | (dsimp only; decide) | omega | (dsimp only; omega)) (by first | decide | (dsimp only; decide) | omega | (dsimp only; omega)) hK253
  have z19_lg258 : ¬ lg258 489 19 = 0 := by rw [em_lg258, setU_19, em_q257]; exact gB_d hc261 hc262
  have e265 : (it259 489 0).toInt = (it248 489 0).toInt := by rw [em_it259]; exact congrArg Int32.toInt (setO_c (by decide))
  have e266 : (it259 489 30).toInt = (it248 489 30).toInt := by rw [em_it259]; exact congrArg Int32.toInt (setO_c (by decide))
  have PT267 : T9 lg258 it259 := T9_c PT256 (by rw [em_lg258]; exact setU_row (by decide)) (by rw [em_lg258]; exact setU_row (by decide)) (by rw [em_it259]; exact setO_row (by decide)) (by rw [em_it259]; exact setO_c (by decide))
  have hc271 : o01 it259 := i9_o hI263
  refine ⟨hc271, ?_⟩
  have hc272 : ¬ (lg206 489 19) = 0 := by assumption
  refine ⟨hc272, ?_⟩
  have hc273 : ¬ (lg258 489 19) = 0 := by assumption
  refine ⟨hc273, ?_⟩
  intro q268 em_q268 lg269 em_lg269 it270 em_it270
  have hI274 : I9 lg269 it270 := by rw [em_lg269, em_it270]; exact i9_g hI263 (by rw [em_q268]; exact gL_o (i9_o hI263))
  have hK275 : Kd (fun j => False) (fun k => k = 18 ∨ k = 19 ∨ k = 20 ∨ k = 38 ∨ k = 39 ∨ k = 40 ∨ k = 41) lg0 it0 lg269 it270 := by rw [em_lg269, em_it270]; exact kd_g (by first | decide | (dsimp only; decide) | omega | (dsimp only; omega)) (by first | decide | (dsimp only; decide) | omega | (dsimp only; omega)) (by first | decide | (dsimp only; decide) | omega | (dsimp only; omega)) hK264
  have z19_lg269 : ¬ lg269 489 19 = 0 := by rw [em_lg269, setU_19, em_q268]; exact gL_d hc272 hc273
  have e276 : (it270 489 0).toInt = (it259 489 0).toInt := by rw [em_it270]; exact congrArg Int32.toInt (setO_c (by decide))
  have e277 : (it270 489 30).toInt = (it259 489 30).toInt := by rw [em_it270]; exact congrArg Int32.toInt (setO_c (by decide))
  have PT278 : T9 lg269 it270 := T9_c PT267 (by rw [em_lg269]; exact setU_row (by decide)) (by rw [em_lg269]; exact setU_row (by decide)) (by rw [em_it270]; exact setO_row (by decide)) (by rw [em_it270]; exact setO_c (by decide))
  intro lg279 em280
  have hI281 : I9 lg279 it270 := by rw [em280]; exact i9_l hI274 (by decide) (by decide) (by decide)
  have hK282 : Kd (fun j => False) (fun k => k = 18 ∨ k = 19 ∨ k = 20 ∨ k = 38 ∨ k = 39 ∨ k = 40 ∨ k = 41) lg0 it0 lg279 it270 := by rw [em280]; exact kd_lf (by first | decide | (dsimp only; decide) | omega | (dsimp only; omega)) hK275
  have PT283 : T9 lg279 it270 := T9_c PT278 (by rw [em280]; exact u2_row (by decide)) (by rw [em280]; exact u2_row (by decide)) rfl rfl
  have Pz19284 : ¬ lg279 489 19 = 0 := z_c (z19_lg269) (by rw [em280]; exact u2_ne (by decide))
  intro lg285 em286
  have hI287 : I9 lg285 it270 := by rw [em286]; exact i9_l hI281 (by decide) (by decide) (by decide)
  have hK288 : Kd (fun j => False) (fun k => k = 18 ∨ k = 19 ∨ k = 20 ∨ k = 38 ∨ k = 39 ∨ k = 40 ∨ k = 41) lg0 it0 lg285 it270 := by rw [em286]; exact kd_lf (by first | decide | (dsimp only; decide) | omega | (dsimp only; omega)) hK282
  have PT289 : T9 lg285 it270 := T9_c PT283 (by rw [em286]; exact u2_row (by decide)) (by rw [em286]; exact u2_row (by decide)) rfl rfl
  have Pz19290 : ¬ lg285 489 19 = 0 := z_c (Pz19284) (by rw [em286]; exact u2_ne (by decide))
  have Pz291 : ¬ lg285 489 39 = 0 := by rw [em286, u2_eq]; exact Pz19284
  have hi292 : vp_in a1 6 := vp_of (by first | omega | ((try simp only [Int32.lt_iff_toInt_lt, Int32.le_iff_toInt_le, ← Int32.toInt_inj, Int32.toInt_toInt64, ti_m14, ti_m13, ti_m12, ti_m11, ti_m10, ti_m9, ti_m6, ti_m5, ti_m4, ti_m3, ti_m2, ti_m1, ti_0, ti_1, ti_2, ti_3, ti_4, ti_5, ti_6, ti_7, ti_8, ti_9, ti_10, ti_11, ti_12, ti_19, ti_20, ti_21, ti_44, ti_45, ti_48, ti_57, ti_59, ti_60, ti_98, ti_99, ti_100, ti_101, ti_103, ti_108, ti_110, ti_114, ti_127]); omega) | (split <;> omega)) (by first | omega | ((try simp only [Int32.lt_iff_toInt_lt, Int32.le_iff_toInt_le, ← Int32.toInt_inj, Int32.toInt_toInt64, ti_m14, ti_m13, ti_m12, ti_m11, ti_m10, ti_m9, ti_m6, ti_m5, ti_m4, ti_m3, ti_m2, ti_m1, ti_0, ti_1, ti_2, ti_3, ti_4, ti_5, ti_6, ti_7, ti_8, ti_9, ti_10, ti_11, ti_12, ti_19, ti_20, ti_21, ti_44, ti_45, ti_48, ti_57, ti_59, ti_60, ti_98, ti_99, ti_100, ti_101, ti_103, ti_108, ti_110, ti_114, ti_127]); omega) | (split <;> omega))
  refine ⟨hi292, ?_⟩
  have hz293 := vlt hi292
  have hc297 : o01 it270 := i9_o hI287
  refine ⟨hc297, ?_⟩
  have hc298 : ¬ (lg234 489 19) = 0 := by assumption
  refine ⟨hc298, ?_⟩
  have hc299 : ¬ (1 : Int64) = 0 := by decide
  refine ⟨hc299, ?_⟩
  intro q294 em_q294 lg295 em_lg295 it296 em_it296
  have hI300 : I9 lg295 it296 := by rw [em_lg295, em_it296]; exact i9_g hI287 (by rw [em_q294]; exact gT_o (i9_o hI287))
  have hK301 : Kd (fun j => False) (fun k => k = 18 ∨ k = 19 ∨ k = 20 ∨ k = 38 ∨ k = 39 ∨ k = 40 ∨ k = 41) lg0 it0 lg295 it296 := by rw [em_lg295, em_it296]; exact kd_g (by first | decide | (dsimp only; decide) | omega | (dsimp only; omega)) (by first | decide | (dsimp only; decide) | omega | (dsimp only; omega)) (by first | decide | (dsimp only; decide) | omega | (dsimp only; omega)) hK288
  have z19_lg295 : ¬ lg295 489 19 = 0 := by rw [em_lg295, setU_19, em_q294]; exact gT_d hc298 hc299
  have e302 : (it296 489 0).toInt = (it270 489 0).toInt := by rw [em_it296]; exact congrArg Int32.toInt (setO_c (by decide))
  have e303 : (it296 489 30).toInt = (it270 489 30).toInt := by rw [em_it296]; exact congrArg Int32.toInt (setO_c (by decide))
  have PT304 : T9 lg295 it296 := T9_c PT289 (by rw [em_lg295]; exact setU_row (by decide)) (by rw [em_lg295]; exact setU_row (by decide)) (by rw [em_it296]; exact setO_row (by decide)) (by rw [em_it296]; exact setO_c (by decide))
  have Pz39305 : ¬ lg295 489 39 = 0 := z_c (Pz291) (by rw [em_lg295]; exact setU_c (by decide) (by decide))
  have hc309 : o01 it296 := i9_o hI300
  refine ⟨hc309, ?_⟩
  have hc310 : ¬ (lg295 489 19) = 0 := by assumption
  refine ⟨hc310, ?_⟩
  have hc311 : (¬ ((it0 501 a1.toNatClampNeg) + (it0 501 (a1 + 1).toNatClampNeg)).toInt64 = 0) ∨ (¬ it296 489 20 = 0) := by first | assumption | exact Or.inl (by assumption) | exact Or.inl (pos_ne (by assumption)) | exact Or.inl (pos_ne (Int64.not_le.mp (by assumption))) | (rw [em_lg295, setU_row (by decide), em_it296, setO_c (by decide)]; exact Or.inl (pos_ne (Int64.not_le.mp (by assumption)))) | exact Or.inl (i64_ne (by (try simp only [Int32.lt_iff_toInt_lt, Int32.le_iff_toInt_le, ← Int32.toInt_inj, Int32.toInt_toInt64, ti_m14, ti_m13, ti_m12, ti_m11, ti_m10, ti_m9, ti_m6, ti_m5, ti_m4, ti_m3, ti_m2, ti_m1, ti_0, ti_1, ti_2, ti_3, ti_4, ti_5, ti_6, ti_7, ti_8, ti_9, ti_10, ti_11, ti_12, ti_19, ti_20, ti_21, ti_44, ti_45, ti_48, ti_57, ti_59, ti_60, ti_98, ti_99, ti_100, ti_101, ti_103, ti_108, ti_110, ti_114, ti_127]); omega))
  refine ⟨hc311, ?_⟩
  intro q306 em_q306 lg307 em_lg307 it308 em_it308
  have hI312 : I9 lg307 it308 := by rw [em_lg307, em_it308]; exact i9_g hI300 (by rw [em_q306]; exact gB_o (i9_o hI300))
  have hK313 : Kd (fun j => False) (fun k => k = 18 ∨ k = 19 ∨ k = 20 ∨ k = 38 ∨ k = 39 ∨ k = 40 ∨ k = 41) lg0 it0 lg307 it308 := by rw [em_lg307, em_it308]; exact kd_g (by first | decide | (dsimp only; decide) | omega | (dsimp only; omega)) (by first | decide | (dsimp only; decide) | omega | (dsimp only; omega)) (by first | decide | (dsimp only; decide) | omega | (dsimp only; omega)) hK301
  have z19_lg307 : ¬ lg307 489 19 = 0 := by rw [em_lg307, setU_19, em_q306]; exact gB_d hc310 hc311
  have e314 : (it308 489 0).toInt = (it296 489 0).toInt := by rw [em_it308]; exact congrArg Int32.toInt (setO_c (by decide))
  have e315 : (it308 489 30).toInt = (it296 489 30).toInt := by rw [em_it308]; exact congrArg Int32.toInt (setO_c (by decide))
  have PT316 : T9 lg307 it308 := T9_c PT304 (by rw [em_lg307]; exact setU_row (by decide)) (by rw [em_lg307]; exact setU_row (by decide)) (by rw [em_it308]; exact setO_row (by decide)) (by rw [em_it308]; exact setO_c (by decide))
  have Pz39317 : ¬ lg307 489 39 = 0 := z_c (Pz39305) (by rw [em_lg307]; exact setU_c (by decide) (by decide))
  have hc321 : o01 it308 := i9_o hI312
  refine ⟨hc321, ?_⟩
  have hc322 : ¬ (lg206 489 19) = 0 := by assumption
  refine ⟨hc322, ?_⟩
  have hc323 : ¬ (lg307 489 19) = 0 := by assumption
  refine ⟨hc323, ?_⟩
  intro q318 em_q318 lg319 em_lg319 it320 em_it320
  have hI324 : I9 lg319 it320 := by rw [em_lg319, em_it320]; exact i9_g hI312 (by rw [em_q318]; exact gP_o (i9_o hI312))
  have hK325 : Kd (fun j => False) (fun k => k = 18 ∨ k = 19 ∨ k = 20 ∨ k = 38 ∨ k = 39 ∨ k = 40 ∨ k = 41) lg0 it0 lg319 it320 := by rw [em_lg319, em_it320]; exact kd_g (by first | decide | (dsimp only; decide) | omega | (dsimp only; omega)) (by first | decide | (dsimp only; decide) | omega | (dsimp only; omega)) (by first | decide | (dsimp only; decide) | omega | (dsimp only; omega)) hK313
  have z19_lg319 : ¬ lg319 489 19 = 0 := by rw [em_lg319, setU_19, em_q318]; exact gP_d hc322 hc323
  have e326 : (it320 489 0).toInt = (it308 489 0).toInt := by rw [em_it320]; exact congrArg Int32.toInt (setO_c (by decide))
  have e327 : (it320 489 30).toInt = (it308 489 30).toInt := by rw [em_it320]; exact congrArg Int32.toInt (setO_c (by decide))
  have PT328 : T9 lg319 it320 := T9_c PT316 (by rw [em_lg319]; exact setU_row (by decide)) (by rw [em_lg319]; exact setU_row (by decide)) (by rw [em_it320]; exact setO_row (by decide)) (by rw [em_it320]; exact setO_c (by decide))
  have Pz39329 : ¬ lg319 489 39 = 0 := z_c (Pz39317) (by rw [em_lg319]; exact setU_c (by decide) (by decide))
  intro lg330 em331
  have hI332 : I9 lg330 it320 := by rw [em331]; exact i9_l hI324 (by decide) (by decide) (by decide)
  have hK333 : Kd (fun j => False) (fun k => k = 18 ∨ k = 19 ∨ k = 20 ∨ k = 38 ∨ k = 39 ∨ k = 40 ∨ k = 41) lg0 it0 lg330 it320 := by rw [em331]; exact kd_lf (by first | decide | (dsimp only; decide) | omega | (dsimp only; omega)) hK325
  have PT334 : T9 lg330 it320 := T9_c PT328 (by rw [em331]; exact u2_row (by decide)) (by rw [em331]; exact u2_row (by decide)) rfl rfl
  have Pz39335 : ¬ lg330 489 39 = 0 := z_c (Pz39329) (by rw [em331]; exact u2_ne (by decide))
  have Pz19336 : ¬ lg330 489 19 = 0 := z_c (z19_lg319) (by rw [em331]; exact u2_ne (by decide))
  intro lg337 em338
  have hI339 : I9 lg337 it320 := by rw [em338]; exact i9_l hI332 (by decide) (by decide) (by decide)
  have hK340 : Kd (fun j => False) (fun k => k = 18 ∨ k = 19 ∨ k = 20 ∨ k = 38 ∨ k = 39 ∨ k = 40 ∨ k = 41) lg0 it0 lg337 it320 := by rw [em338]; exact kd_lf (by first | decide | (dsimp only; decide) | omega | (dsimp only; omega)) hK333
  have PT341 : T9 lg337 it320 := T9_c PT334 (by rw [em338]; exact u2_row (by decide)) (by rw [em338]; exact u2_row (by decide)) rfl rfl
  have Pz39342 : ¬ lg337 489 39 = 0 := z_c (Pz39335) (by rw [em338]; exact u2_ne (by decide))
  have Pz19343 : ¬ lg337 489 19 = 0 := z_c (Pz19336) (by rw [em338]; exact u2_ne (by decide))
  have Pz344 : ¬ lg337 489 41 = 0 := by rw [em338, u2_eq]; exact Pz19336
  subst hp
  exact ⟨⟨hI339, hK340⟩, ⟨Pz39342, Pz344⟩⟩
