set_option maxRecDepth 100000 in
theorem s_X9_upTo (a1 : Int32) {lg0 : LGt} {it0 : ITt} (hI : I9 lg0 it0) (hB : B9 lg0 it0) : w_X9_upTo a1 (fun (v : Int32) (lg' : LGt) (it' : ITt) => (I9 lg' it' ∧ Kd (fun j => False) (fun k => k = 18 ∨ k = 19 ∨ k = 20) lg0 it0 lg' it') ∧ (v.toInt = -1 ∨ (0 ≤ v.toInt ∧ v.toInt ≤ (it0 489 42).toInt)))  lg0 it0 := by
  have hb_a1 := And.intro a1.le_toInt a1.toInt_lt
  have hKr : Kd (fun j => False) (fun k => k = 18 ∨ k = 19 ∨ k = 20) lg0 it0 lg0 it0 := kd_r
  generalize hp : (fun (v : Int32) (lg' : LGt) (it' : ITt) => (I9 lg' it' ∧ Kd (fun j => False) (fun k => k = 18 ∨ k = 19 ∨ k = 20) lg0 it0 lg' it') ∧ (v.toInt = -1 ∨ (0 ≤ v.toInt ∧ v.toInt ≤ (it0 489 42).toInt))) = Pz
  unfold w_X9_upTo
  have t0 := ti_0
  have t9 := ti_9
  have tm1 := ti_m1
  have lp2 : ∀ (n : Nat) (x2 : Int32) (lg : LGt) (it : ITt), I9 lg it → Kd (fun j => False) (fun k => k = 18 ∨ k = 19 ∨ k = 20) lg0 it0 lg it → ((0 ≤ (x2).toInt) ∧ (B9 lg it) ∧ ((it 489 42).toInt = (it0 489 42).toInt)) → (21 - (x2).toInt).toNat < n → w_X9_upTo_b2 a1 Pz  n x2 lg it := by
    intro n2
    induction n2 with
    | zero => intro x2 lg it _ _ _ hn; exact absurd hn (Nat.not_lt_zero _)
    | succ n2 ih2 =>
      intro x2 lg27 it28 hI25 hK26 hv hn
      unfold w_X9_upTo_b2
      obtain ⟨hv2_0, hv2_1, hv2_2⟩ := hv
      have f29 : 0 ≤ (it28 489 42).toInt ∧ (it28 489 42).toInt ≤ 20 := i9_f hI25 (j := 489) (k := 42) rfl
      refine ⟨fun c7 => ?_, fun c7 => ?_⟩
      · try simp only [Int32.lt_iff_toInt_lt, Int32.le_iff_toInt_le, ← Int32.toInt_inj, Int32.toInt_toInt64, tiA, tlA] at c7
        refine ⟨fun c64 => ?_, fun c64 => ?_⟩
        · try simp only [Int32.lt_iff_toInt_lt, Int32.le_iff_toInt_le, ← Int32.toInt_inj, Int32.toInt_toInt64, tiA, tlA] at c64
          subst hp
          exact ⟨⟨hI25, hK26⟩, by first | omega | ((try simp only [Int32.lt_iff_toInt_lt, Int32.le_iff_toInt_le, ← Int32.toInt_inj, Int32.toInt_toInt64, tiA, tlA]); omega)⟩
        · try simp only [Int32.lt_iff_toInt_lt, Int32.le_iff_toInt_le, ← Int32.toInt_inj, Int32.toInt_toInt64, tiA, tlA] at c64
          subst hp
          exact ⟨⟨hI25, hK26⟩, by first | omega | ((try simp only [Int32.lt_iff_toInt_lt, Int32.le_iff_toInt_le, ← Int32.toInt_inj, Int32.toInt_toInt64, tiA, tlA]); omega)⟩
      · try simp only [Int32.lt_iff_toInt_lt, Int32.le_iff_toInt_le, ← Int32.toInt_inj, Int32.toInt_toInt64, tiA, tlA] at c7
        intro it30 em31
        have hI32 : I9 lg27 it30 := by rw [em31]; exact i9_u hI25 (ok9_b (a := 0) (b := 1) rfl (by first | decide | ((try simp only [Int32.lt_iff_toInt_lt, Int32.le_iff_toInt_le, ← Int32.toInt_inj, Int32.toInt_toInt64, tiA, tlA]); omega) | (split <;> (try simp only [Int32.lt_iff_toInt_lt, Int32.le_iff_toInt_le, ← Int32.toInt_inj, Int32.toInt_toInt64, tiA, tlA]) <;> omega))) (by decide) (fun _ => by decide)
        have hK33 : Kd (fun j => False) (fun k => k = 18 ∨ k = 19 ∨ k = 20) lg0 it0 lg27 it30 := by rw [em31]; exact kd_uf (by first | decide | (dsimp only; decide) | omega | (dsimp only; omega)) hK26
        have e34 : (it30 489 0).toInt = (it28 489 0).toInt := by rw [em31]; exact congrArg Int32.toInt (u2_ne (by decide))
        have e35 : (it30 489 42).toInt = (it28 489 42).toInt := by rw [em31]; exact congrArg Int32.toInt (u2_ne (by decide))
        have PB36 : B9 lg27 it30 := B9_c hv2_1 rfl rfl (by rw [em31]; exact u2_ne (by decide)) (by rw [em31]; exact u2_ne (by decide))
        have hi37 : vp_in x2 20 := vp_of (by first | omega | ((try simp only [Int32.lt_iff_toInt_lt, Int32.le_iff_toInt_le, ← Int32.toInt_inj, Int32.toInt_toInt64, tiA, tlA]); omega) | (split <;> omega)) (by first | omega | ((try simp only [Int32.lt_iff_toInt_lt, Int32.le_iff_toInt_le, ← Int32.toInt_inj, Int32.toInt_toInt64, tiA, tlA]); omega) | (split <;> omega))
        refine ⟨hi37, ?_⟩
        have hz38 := vlt hi37
        have hi39 : vp_in x2 20 := vp_of (by first | omega | ((try simp only [Int32.lt_iff_toInt_lt, Int32.le_iff_toInt_le, ← Int32.toInt_inj, Int32.toInt_toInt64, tiA, tlA]); omega) | (split <;> omega)) (by first | omega | ((try simp only [Int32.lt_iff_toInt_lt, Int32.le_iff_toInt_le, ← Int32.toInt_inj, Int32.toInt_toInt64, tiA, tlA]); omega) | (split <;> omega))
        refine ⟨hi39, ?_⟩
        have hz40 := vlt hi39
        have hc44 : o01 it30 := i9_o hI32
        refine ⟨hc44, ?_⟩
        have hc45 : ¬ (1 : Int64) = 0 := by decide
        refine ⟨hc45, ?_⟩
        have hc46 : ¬ (lg27 510 x2.toNatClampNeg) = 0 := B9_1 PB36 (by have z1 := cl32 (i := x2) (by omega); omega) (by have z1 := cl32 (i := x2) (by omega); omega)
        refine ⟨hc46, ?_⟩
        intro q41 em_q41 lg42 em_lg42 it43 em_it43
        have hI47 : I9 lg42 it43 := by rw [em_lg42, em_it43]; exact i9_g hI32 (by rw [em_q41]; exact gL_o (i9_o hI32))
        have hK48 : Kd (fun j => False) (fun k => k = 18 ∨ k = 19 ∨ k = 20) lg0 it0 lg42 it43 := by rw [em_lg42, em_it43]; exact kd_g (by first | decide | (dsimp only; decide) | omega | (dsimp only; omega)) (by first | decide | (dsimp only; decide) | omega | (dsimp only; omega)) (by first | decide | (dsimp only; decide) | omega | (dsimp only; omega)) hK33
        have z19_lg42 : ¬ lg42 489 19 = 0 := by rw [em_lg42, setU_19, em_q41]; exact gL_d hc45 hc46
        have e49 : (it43 489 0).toInt = (it30 489 0).toInt := by rw [em_it43]; exact congrArg Int32.toInt (setO_c (by decide))
        have e50 : (it43 489 42).toInt = (it30 489 42).toInt := by rw [em_it43]; exact congrArg Int32.toInt (setO_c (by decide))
        have PB51 : B9 lg42 it43 := B9_c PB36 (by rw [em_lg42]; exact setU_row (by decide)) (by rw [em_lg42]; exact setU_row (by decide)) (by rw [em_it43]; exact setO_c (by decide)) (by rw [em_it43]; exact setO_c (by decide))
        have f52 : 0 ≤ (it43 489 20).toInt ∧ (it43 489 20).toInt ≤ 1 := i9_f hI47 (j := 489) (k := 20) rfl
        refine ⟨fun c38 => ?_, fun c38 => ?_⟩
        · try simp only [Int32.lt_iff_toInt_lt, Int32.le_iff_toInt_le, ← Int32.toInt_inj, Int32.toInt_toInt64, tiA, tlA] at c38
          refine ⟨fun c49 => ?_, fun c49 => ?_⟩
          · try simp only [Int32.lt_iff_toInt_lt, Int32.le_iff_toInt_le, ← Int32.toInt_inj, Int32.toInt_toInt64, tiA, tlA] at c49
            try have f53 : ((x2 + 1) : Int32).toInt = (x2).toInt + 1 := ad32 (a := (x2).toInt) (b := 1) (rfl) (ti_1) (by omega) (by omega)
            exact ih2 ((x2 + 1)) _ _ hI47 hK48 (by refine ⟨?_, ?_, ?_⟩ <;> first | exact Nx_0 | omega | assumption | exact Or.inl rfl | exact Or.inr rfl | exact i8_1 (by assumption) (by assumption) | decide) (by omega)
          · try simp only [Int32.lt_iff_toInt_lt, Int32.le_iff_toInt_le, ← Int32.toInt_inj, Int32.toInt_toInt64, tiA, tlA] at c49
            subst hp
            exact ⟨⟨hI47, hK48⟩, by first | omega | ((try simp only [Int32.lt_iff_toInt_lt, Int32.le_iff_toInt_le, ← Int32.toInt_inj, Int32.toInt_toInt64, tiA, tlA]); omega)⟩
        · try simp only [Int32.lt_iff_toInt_lt, Int32.le_iff_toInt_le, ← Int32.toInt_inj, Int32.toInt_toInt64, tiA, tlA] at c38
          subst hp
          exact ⟨⟨hI47, hK48⟩, by first | omega | ((try simp only [Int32.lt_iff_toInt_lt, Int32.le_iff_toInt_le, ← Int32.toInt_inj, Int32.toInt_toInt64, tiA, tlA]); omega)⟩
  have t54 := ti_0
  exact ⟨_, lp2 ((21 - ((0 : Int32)).toInt).toNat + 1) ((0 : Int32)) _ _ hI hKr (by refine ⟨?_, ?_, ?_⟩ <;> first | exact Nx_0 | omega | assumption | exact Or.inl rfl | exact Or.inr rfl | exact i8_1 (by assumption) (by assumption) | decide) (Nat.lt_succ_self _)⟩
set_option maxRecDepth 100000 in
theorem s_X9_see (a1 : Int32) (a2 : Int32) {lg0 : LGt} {it0 : ITt} (hI : I9 lg0 it0) : w_X9_see a1 a2 (fun (v : Int32) (lg' : LGt) (it' : ITt) => (I9 lg' it' ∧ Kd (fun j => j = 495 ∨ j = 496) (fun k => k = 9) lg0 it0 lg' it'))  lg0 it0 := by
  have hb_a1 := And.intro a1.le_toInt a1.toInt_lt
  have hb_a2 := And.intro a2.le_toInt a2.toInt_lt
  have hKr : Kd (fun j => j = 495 ∨ j = 496) (fun k => k = 9) lg0 it0 lg0 it0 := kd_r
  generalize hp : (fun (v : Int32) (lg' : LGt) (it' : ITt) => (I9 lg' it' ∧ Kd (fun j => j = 495 ∨ j = 496) (fun k => k = 9) lg0 it0 lg' it')) = Pz
  unfold w_X9_see
  refine ⟨fun c2 => ?_, fun c2 => ?_⟩
  · try simp only [Int32.lt_iff_toInt_lt, Int32.le_iff_toInt_le, ← Int32.toInt_inj, Int32.toInt_toInt64, tiA, tlA] at c2
    refine ⟨fun c21 => ?_, fun c21 => ?_⟩
    · try simp only [Int32.lt_iff_toInt_lt, Int32.le_iff_toInt_le, ← Int32.toInt_inj, Int32.toInt_toInt64, tiA, tlA] at c21
      subst hp
      exact ⟨hI, hKr⟩
    · try simp only [Int32.lt_iff_toInt_lt, Int32.le_iff_toInt_le, ← Int32.toInt_inj, Int32.toInt_toInt64, tiA, tlA] at c21
      refine ⟨fun c28 => ?_, fun c28 => ?_⟩
      · try simp only [Int32.lt_iff_toInt_lt, Int32.le_iff_toInt_le, ← Int32.toInt_inj, Int32.toInt_toInt64, tiA, tlA] at c28
        have f19 : 0 ≤ (it0 489 9).toInt ∧ (it0 489 9).toInt ≤ 5 := i9_f hI (j := 489) (k := 9) rfl
        refine ⟨fun c38 => ?_, fun c38 => ?_⟩
        · try simp only [Int32.lt_iff_toInt_lt, Int32.le_iff_toInt_le, ← Int32.toInt_inj, Int32.toInt_toInt64, tiA, tlA] at c38
          have hi20 : vp_in (it0 489 9) 5 := vp_of (by first | omega | ((try simp only [Int32.lt_iff_toInt_lt, Int32.le_iff_toInt_le, ← Int32.toInt_inj, Int32.toInt_toInt64, tiA, tlA]); omega) | (split <;> omega)) (by first | omega | ((try simp only [Int32.lt_iff_toInt_lt, Int32.le_iff_toInt_le, ← Int32.toInt_inj, Int32.toInt_toInt64, tiA, tlA]); omega) | (split <;> omega))
          refine ⟨hi20, ?_⟩
          have hz21 := vlt hi20
          intro it22 em23
          have hI24 : I9 lg0 it22 := by rw [em23]; exact i9_u hI (ok9_b (a := 0) (b := 19) rfl (by first | decide | ((try simp only [Int32.lt_iff_toInt_lt, Int32.le_iff_toInt_le, ← Int32.toInt_inj, Int32.toInt_toInt64, tiA, tlA]); omega) | (split <;> (try simp only [Int32.lt_iff_toInt_lt, Int32.le_iff_toInt_le, ← Int32.toInt_inj, Int32.toInt_toInt64, tiA, tlA]) <;> omega))) (by decide) (fun q => absurd q (by decide))
          have hK25 : Kd (fun j => j = 495 ∨ j = 496) (fun k => k = 9) lg0 it0 lg0 it22 := by rw [em23]; exact kd_ur (by decide) (by first | decide | (dsimp only; decide) | omega | (dsimp only; omega)) hKr
          have e26 : (it22 489 9).toInt = (it0 489 9).toInt := by rw [em23]; exact congrArg Int32.toInt (congrFun (u2_row (by decide)) 9)
          have f27 : 0 ≤ (it22 489 9).toInt ∧ (it22 489 9).toInt ≤ 5 := i9_f hI24 (j := 489) (k := 9) rfl
          have hi28 : vp_in (it22 489 9) 5 := vp_of (by first | omega | ((try simp only [Int32.lt_iff_toInt_lt, Int32.le_iff_toInt_le, ← Int32.toInt_inj, Int32.toInt_toInt64, tiA, tlA]); omega) | (split <;> omega)) (by first | omega | ((try simp only [Int32.lt_iff_toInt_lt, Int32.le_iff_toInt_le, ← Int32.toInt_inj, Int32.toInt_toInt64, tiA, tlA]); omega) | (split <;> omega))
          refine ⟨hi28, ?_⟩
          have hz29 := vlt hi28
          intro it30 em31
          have hI32 : I9 lg0 it30 := by rw [em31]; exact i9_u hI24 (ok9_n rfl) (by decide) (fun q => absurd q (by decide))
          have hK33 : Kd (fun j => j = 495 ∨ j = 496) (fun k => k = 9) lg0 it0 lg0 it30 := by rw [em31]; exact kd_ur (by decide) (by first | decide | (dsimp only; decide) | omega | (dsimp only; omega)) hK25
          have e34 : (it30 489 9).toInt = (it22 489 9).toInt := by rw [em31]; exact congrArg Int32.toInt (congrFun (u2_row (by decide)) 9)
          have f35 : 0 ≤ (it30 489 9).toInt ∧ (it30 489 9).toInt ≤ 5 := i9_f hI32 (j := 489) (k := 9) rfl
          try have f36 : (((it30 489 9) + 1) : Int32).toInt = ((it30 489 9)).toInt + 1 := ad32 (a := ((it30 489 9)).toInt) (b := 1) (rfl) (ti_1) (by omega) (by omega)
          intro it37 em38
          have hI39 : I9 lg0 it37 := by rw [em38]; exact i9_u hI32 (ok9_b (a := 0) (b := 5) rfl (by first | decide | ((try simp only [Int32.lt_iff_toInt_lt, Int32.le_iff_toInt_le, ← Int32.toInt_inj, Int32.toInt_toInt64, tiA, tlA]); omega) | (split <;> (try simp only [Int32.lt_iff_toInt_lt, Int32.le_iff_toInt_le, ← Int32.toInt_inj, Int32.toInt_toInt64, tiA, tlA]) <;> omega))) (by decide) (fun _ => by decide)
          have hK40 : Kd (fun j => j = 495 ∨ j = 496) (fun k => k = 9) lg0 it0 lg0 it37 := by rw [em38]; exact kd_uf (by first | decide | (dsimp only; decide) | omega | (dsimp only; omega)) hK33
          have e42 : (it37 489 9).toInt = (((it30 489 9) + 1) : Int32).toInt := by rw [em38]; exact congrArg Int32.toInt u2_eq
          have f43 : 0 ≤ (it37 489 9).toInt ∧ (it37 489 9).toInt ≤ 5 := i9_f hI39 (j := 489) (k := 9) rfl
          subst hp
          exact ⟨hI39, hK40⟩
        · try simp only [Int32.lt_iff_toInt_lt, Int32.le_iff_toInt_le, ← Int32.toInt_inj, Int32.toInt_toInt64, tiA, tlA] at c38
          subst hp
          exact ⟨hI, hKr⟩
      · try simp only [Int32.lt_iff_toInt_lt, Int32.le_iff_toInt_le, ← Int32.toInt_inj, Int32.toInt_toInt64, tiA, tlA] at c28
        subst hp
        exact ⟨hI, hKr⟩
  · try simp only [Int32.lt_iff_toInt_lt, Int32.le_iff_toInt_le, ← Int32.toInt_inj, Int32.toInt_toInt64, tiA, tlA] at c2
    intro it44 em45
    have hI46 : I9 lg0 it44 := by rw [em45]; exact i9_u hI (ok9_b (a := 0) (b := 5) rfl (by first | decide | ((try simp only [Int32.lt_iff_toInt_lt, Int32.le_iff_toInt_le, ← Int32.toInt_inj, Int32.toInt_toInt64, tiA, tlA]); omega) | (split <;> (try simp only [Int32.lt_iff_toInt_lt, Int32.le_iff_toInt_le, ← Int32.toInt_inj, Int32.toInt_toInt64, tiA, tlA]) <;> omega))) (by decide) (fun _ => by decide)
    have hK47 : Kd (fun j => j = 495 ∨ j = 496) (fun k => k = 9) lg0 it0 lg0 it44 := by rw [em45]; exact kd_uf (by first | decide | (dsimp only; decide) | omega | (dsimp only; omega)) hKr
    subst hp
    exact ⟨hI46, hK47⟩
set_option maxRecDepth 100000 in
theorem s_X9_isStruck (a1 : Int32) (a2 : Int32) {lg0 : LGt} {it0 : ITt} (hI : I9 lg0 it0) (hk : 0 ≤ a1.toInt) : w_X9_isStruck a1 a2 (fun (v : Int32) (lg' : LGt) (it' : ITt) => (I9 lg' it' ∧ Kd (fun j => False) (fun k => False) lg0 it0 lg' it') ∧ (v = 0 ∨ v = 1))  lg0 it0 := by
  have hb_a1 := And.intro a1.le_toInt a1.toInt_lt
  have hb_a2 := And.intro a2.le_toInt a2.toInt_lt
  have hKr : Kd (fun j => False) (fun k => False) lg0 it0 lg0 it0 := kd_r
  generalize hp : (fun (v : Int32) (lg' : LGt) (it' : ITt) => (I9 lg' it' ∧ Kd (fun j => False) (fun k => False) lg0 it0 lg' it') ∧ (v = 0 ∨ v = 1)) = Pz
  unfold w_X9_isStruck
  have f7 : 0 ≤ (it0 489 42).toInt ∧ (it0 489 42).toInt ≤ 20 := i9_f hI (j := 489) (k := 42) rfl
  refine ⟨fun c5 => ?_, fun c5 => ?_⟩
  · try simp only [Int32.lt_iff_toInt_lt, Int32.le_iff_toInt_le, ← Int32.toInt_inj, Int32.toInt_toInt64, tiA, tlA] at c5
    subst hp
    exact ⟨⟨hI, hKr⟩, by first | exact Or.inl rfl | exact Or.inr rfl | assumption⟩
  · try simp only [Int32.lt_iff_toInt_lt, Int32.le_iff_toInt_le, ← Int32.toInt_inj, Int32.toInt_toInt64, tiA, tlA] at c5
    have hi8 : vp_in a1 20 := vp_of (by first | omega | ((try simp only [Int32.lt_iff_toInt_lt, Int32.le_iff_toInt_le, ← Int32.toInt_inj, Int32.toInt_toInt64, tiA, tlA]); omega) | (split <;> omega)) (by first | omega | ((try simp only [Int32.lt_iff_toInt_lt, Int32.le_iff_toInt_le, ← Int32.toInt_inj, Int32.toInt_toInt64, tiA, tlA]); omega) | (split <;> omega))
    refine ⟨hi8, ?_⟩
    have hz9 := vlt hi8
    refine ⟨fun c15 => ?_, fun c15 => ?_⟩
    · try simp only [Int32.lt_iff_toInt_lt, Int32.le_iff_toInt_le, ← Int32.toInt_inj, Int32.toInt_toInt64, tiA, tlA] at c15
      subst hp
      exact ⟨⟨hI, hKr⟩, by first | exact Or.inl rfl | exact Or.inr rfl | assumption⟩
    · try simp only [Int32.lt_iff_toInt_lt, Int32.le_iff_toInt_le, ← Int32.toInt_inj, Int32.toInt_toInt64, tiA, tlA] at c15
      subst hp
      exact ⟨⟨hI, hKr⟩, by first | exact Or.inl rfl | exact Or.inr rfl | assumption⟩
theorem s_X9_common (a0 a1 : Int64) {lg0 : LGt} {it0 : ITt} (hI : I9 lg0 it0) (hb : ¬ a1 = 0) : w_X9_common a0 a1 (fun (v : Int64) (lg' : LGt) (it' : ITt) => (I9 lg' it' ∧ Kd (fun j => False) (fun k => False) lg0 it0 lg' it') ∧ ¬ v = 0) lg0 it0 := by
  have lp : ∀ (n : Nat) (x y : Int64), y.toInt.natAbs < n → (¬ x = 0 ∨ ¬ y = 0) → w_X9_common_b6 a0 a1 (fun (v : Int64) (lg' : LGt) (it' : ITt) => (I9 lg' it' ∧ Kd (fun j => False) (fun k => False) lg0 it0 lg' it') ∧ ¬ v = 0) n x y lg0 it0 := by
    intro n
    induction n with
    | zero => exact fun _ _ h _ => absurd h (Nat.not_lt_zero _)
    | succ n ih =>
      intro x y hn h
      unfold w_X9_common_b6
      refine ⟨fun cy => ?_, fun cy => ⟨cy, ih y _ (by have := rem_lt (x := x) cy; omega) (Or.inl cy)⟩⟩
      exact ⟨⟨hI, kd_r⟩, h.elim id (fun q => absurd cy q)⟩
  unfold w_X9_common
  exact ⟨_, lp (a1.toInt.natAbs + 1) a0 a1 (Nat.lt_succ_self _) (Or.inr hb)⟩
set_option maxRecDepth 100000 in
theorem s_X9_odds (a1 : Int32) (a2 : Int32) {lg0 : LGt} {it0 : ITt} (hI : I9 lg0 it0) : w_X9_odds a1 a2 (fun (v : Int64) (lg' : LGt) (it' : ITt) => (I9 lg' it' ∧ Kd (fun j => j = 501 ∨ j = 502 ∨ j = 503 ∨ j = 504 ∨ j = 505 ∨ j = 506 ∨ j = 507 ∨ j = 508 ∨ j = 509 ∨ j = 510 ∨ j = 511 ∨ j = 512) (fun k => k = 18 ∨ k = 19 ∨ k = 20 ∨ k = 28 ∨ k = 29 ∨ k = 30 ∨ k = 31 ∨ k = 32 ∨ k = 33 ∨ k = 34 ∨ k = 35 ∨ k = 36 ∨ k = 37 ∨ k = 38 ∨ k = 39 ∨ k = 40 ∨ k = 41 ∨ k = 42 ∨ k = 43) lg0 it0 lg' it'))  lg0 it0 := by
  have hb_a1 := And.intro a1.le_toInt a1.toInt_lt
  have hb_a2 := And.intro a2.le_toInt a2.toInt_lt
  have hKr : Kd (fun j => j = 501 ∨ j = 502 ∨ j = 503 ∨ j = 504 ∨ j = 505 ∨ j = 506 ∨ j = 507 ∨ j = 508 ∨ j = 509 ∨ j = 510 ∨ j = 511 ∨ j = 512) (fun k => k = 18 ∨ k = 19 ∨ k = 20 ∨ k = 28 ∨ k = 29 ∨ k = 30 ∨ k = 31 ∨ k = 32 ∨ k = 33 ∨ k = 34 ∨ k = 35 ∨ k = 36 ∨ k = 37 ∨ k = 38 ∨ k = 39 ∨ k = 40 ∨ k = 41 ∨ k = 42 ∨ k = 43) lg0 it0 lg0 it0 := kd_r
  generalize hp : (fun (v : Int64) (lg' : LGt) (it' : ITt) => (I9 lg' it' ∧ Kd (fun j => j = 501 ∨ j = 502 ∨ j = 503 ∨ j = 504 ∨ j = 505 ∨ j = 506 ∨ j = 507 ∨ j = 508 ∨ j = 509 ∨ j = 510 ∨ j = 511 ∨ j = 512) (fun k => k = 18 ∨ k = 19 ∨ k = 20 ∨ k = 28 ∨ k = 29 ∨ k = 30 ∨ k = 31 ∨ k = 32 ∨ k = 33 ∨ k = 34 ∨ k = 35 ∨ k = 36 ∨ k = 37 ∨ k = 38 ∨ k = 39 ∨ k = 40 ∨ k = 41 ∨ k = 42 ∨ k = 43) lg0 it0 lg' it')) = Pz
  unfold w_X9_odds
  have t0 := ti_0
  have t9 := ti_9
  have tm1 := ti_m1
  refine ⟨fun c9 => ?_, fun c9 => ?_⟩
  · try simp only [Int32.lt_iff_toInt_lt, Int32.le_iff_toInt_le, ← Int32.toInt_inj, Int32.toInt_toInt64, tiA, tlA] at c9
    subst hp
    exact ⟨hI, hKr⟩
  · try simp only [Int32.lt_iff_toInt_lt, Int32.le_iff_toInt_le, ← Int32.toInt_inj, Int32.toInt_toInt64, tiA, tlA] at c9
    refine ⟨fun c16 => ?_, fun c16 => ?_⟩
    · try simp only [Int32.lt_iff_toInt_lt, Int32.le_iff_toInt_le, ← Int32.toInt_inj, Int32.toInt_toInt64, tiA, tlA] at c16
      have lp28 : ∀ (n : Nat) (x3 : Int32) (x4 : Int32) (lg : LGt) (it : ITt), I9 lg it → Kd (fun j => j = 501 ∨ j = 502 ∨ j = 503 ∨ j = 504 ∨ j = 505 ∨ j = 506 ∨ j = 507 ∨ j = 508 ∨ j = 509 ∨ j = 510 ∨ j = 511 ∨ j = 512) (fun k => k = 18 ∨ k = 19 ∨ k = 20 ∨ k = 28 ∨ k = 29 ∨ k = 30 ∨ k = 31 ∨ k = 32 ∨ k = 33 ∨ k = 34 ∨ k = 35 ∨ k = 36 ∨ k = 37 ∨ k = 38 ∨ k = 39 ∨ k = 40 ∨ k = 41 ∨ k = 42 ∨ k = 43) lg0 it0 lg it → ((0 ≤ (x4).toInt)) → (6 - (x4).toInt).toNat < n → w_X9_odds_b28 a1 a2 Pz  n x3 x4 lg it := by
        intro n28
        induction n28 with
        | zero => intro x3 x4 lg it _ _ _ hn; exact absurd hn (Nat.not_lt_zero _)
        | succ n28 ih28 =>
          intro x3 x4 lg37 it38 hI35 hK36 hv hn
          unfold w_X9_odds_b28
          have hv28_0 := hv
          refine ⟨fun c31 => ?_, fun c31 => ?_⟩
          · try simp only [Int32.lt_iff_toInt_lt, Int32.le_iff_toInt_le, ← Int32.toInt_inj, Int32.toInt_toInt64, tiA, tlA] at c31
            refine ⟨fun c73 => ?_, fun c73 => ?_⟩
            · try simp only [Int32.lt_iff_toInt_lt, Int32.le_iff_toInt_le, ← Int32.toInt_inj, Int32.toInt_toInt64, tiA, tlA] at c73
              unfold w_X9_odds_b84
              refine ⟨_, s_X9_common  (x3.toInt64) ((5 : Int64)) hI35 (by decide), ?_⟩
              intro v44 lg39 it40 hq
              obtain ⟨⟨hI41, hK42⟩, ha45⟩ := hq
              have hK43 : Kd (fun j => j = 501 ∨ j = 502 ∨ j = 503 ∨ j = 504 ∨ j = 505 ∨ j = 506 ∨ j = 507 ∨ j = 508 ∨ j = 509 ∨ j = 510 ∨ j = 511 ∨ j = 512) (fun k => k = 18 ∨ k = 19 ∨ k = 20 ∨ k = 28 ∨ k = 29 ∨ k = 30 ∨ k = 31 ∨ k = 32 ∨ k = 33 ∨ k = 34 ∨ k = 35 ∨ k = 36 ∨ k = 37 ∨ k = 38 ∨ k = 39 ∨ k = 40 ∨ k = 41 ∨ k = 42 ∨ k = 43) lg0 it0 lg39 it40 := kd_t hK36 hK42 (fun j hj => by first | omega | exact False.elim hj | (dsimp only at hj ⊢; omega)) (fun j hj => by first | omega | exact False.elim hj | (dsimp only at hj ⊢; omega))
              refine ⟨by assumption, ?_⟩
              subst hp
              exact ⟨hI41, hK43⟩
            · try simp only [Int32.lt_iff_toInt_lt, Int32.le_iff_toInt_le, ← Int32.toInt_inj, Int32.toInt_toInt64, tiA, tlA] at c73
              unfold w_X9_odds_b84
              refine ⟨_, s_X9_common  (x3.toInt64) ((5 : Int64)) hI35 (by decide), ?_⟩
              intro v51 lg46 it47 hq
              obtain ⟨⟨hI48, hK49⟩, ha52⟩ := hq
              have hK50 : Kd (fun j => j = 501 ∨ j = 502 ∨ j = 503 ∨ j = 504 ∨ j = 505 ∨ j = 506 ∨ j = 507 ∨ j = 508 ∨ j = 509 ∨ j = 510 ∨ j = 511 ∨ j = 512) (fun k => k = 18 ∨ k = 19 ∨ k = 20 ∨ k = 28 ∨ k = 29 ∨ k = 30 ∨ k = 31 ∨ k = 32 ∨ k = 33 ∨ k = 34 ∨ k = 35 ∨ k = 36 ∨ k = 37 ∨ k = 38 ∨ k = 39 ∨ k = 40 ∨ k = 41 ∨ k = 42 ∨ k = 43) lg0 it0 lg46 it47 := kd_t hK36 hK49 (fun j hj => by first | omega | exact False.elim hj | (dsimp only at hj ⊢; omega)) (fun j hj => by first | omega | exact False.elim hj | (dsimp only at hj ⊢; omega))
              refine ⟨by assumption, ?_⟩
              subst hp
              exact ⟨hI48, hK50⟩
          · try simp only [Int32.lt_iff_toInt_lt, Int32.le_iff_toInt_le, ← Int32.toInt_inj, Int32.toInt_toInt64, tiA, tlA] at c31
            refine ⟨_, s_X9_minds   hI35 , ?_⟩
            intro lg53 it54 hq
            obtain ⟨⟨hI55, hK56⟩, ha59⟩ := hq
            have hK57 : Kd (fun j => j = 501 ∨ j = 502 ∨ j = 503 ∨ j = 504 ∨ j = 505 ∨ j = 506 ∨ j = 507 ∨ j = 508 ∨ j = 509 ∨ j = 510 ∨ j = 511 ∨ j = 512) (fun k => k = 18 ∨ k = 19 ∨ k = 20 ∨ k = 28 ∨ k = 29 ∨ k = 30 ∨ k = 31 ∨ k = 32 ∨ k = 33 ∨ k = 34 ∨ k = 35 ∨ k = 36 ∨ k = 37 ∨ k = 38 ∨ k = 39 ∨ k = 40 ∨ k = 41 ∨ k = 42 ∨ k = 43) lg0 it0 lg53 it54 := kd_t hK36 hK56 (fun j hj => by first | omega | exact False.elim hj | (dsimp only at hj ⊢; omega)) (fun j hj => by first | omega | exact False.elim hj | (dsimp only at hj ⊢; omega))
            intro it60 em61
            have hI62 : I9 lg53 it60 := by rw [em61]; exact i9_u hI55 (ok9_n rfl) (by decide) (fun _ => by decide)
            have hK63 : Kd (fun j => j = 501 ∨ j = 502 ∨ j = 503 ∨ j = 504 ∨ j = 505 ∨ j = 506 ∨ j = 507 ∨ j = 508 ∨ j = 509 ∨ j = 510 ∨ j = 511 ∨ j = 512) (fun k => k = 18 ∨ k = 19 ∨ k = 20 ∨ k = 28 ∨ k = 29 ∨ k = 30 ∨ k = 31 ∨ k = 32 ∨ k = 33 ∨ k = 34 ∨ k = 35 ∨ k = 36 ∨ k = 37 ∨ k = 38 ∨ k = 39 ∨ k = 40 ∨ k = 41 ∨ k = 42 ∨ k = 43) lg0 it0 lg53 it60 := by rw [em61]; exact kd_uf (by first | decide | (dsimp only; decide) | omega | (dsimp only; omega)) hK57
            have PT64 : T9 lg53 it60 := T9_c ha59 rfl rfl (by rw [em61]; exact u2_row (by decide)) (by rw [em61]; exact u2_ne (by decide))
            refine ⟨_, s_X9_goesOn  ((20 : Int32)) hI62 (PT64) (by first | decide | omega | ((try simp only [Int32.lt_iff_toInt_lt, Int32.le_iff_toInt_le, ← Int32.toInt_inj, Int32.toInt_toInt64, tiA, tlA]); omega)), ?_⟩
            intro lg65 it66 hq
            obtain ⟨⟨hI67, hK68⟩, ha71⟩ := hq
            have hK69 : Kd (fun j => j = 501 ∨ j = 502 ∨ j = 503 ∨ j = 504 ∨ j = 505 ∨ j = 506 ∨ j = 507 ∨ j = 508 ∨ j = 509 ∨ j = 510 ∨ j = 511 ∨ j = 512) (fun k => k = 18 ∨ k = 19 ∨ k = 20 ∨ k = 28 ∨ k = 29 ∨ k = 30 ∨ k = 31 ∨ k = 32 ∨ k = 33 ∨ k = 34 ∨ k = 35 ∨ k = 36 ∨ k = 37 ∨ k = 38 ∨ k = 39 ∨ k = 40 ∨ k = 41 ∨ k = 42 ∨ k = 43) lg0 it0 lg65 it66 := kd_t hK63 hK68 (fun j hj => by first | omega | exact False.elim hj | (dsimp only at hj ⊢; omega)) (fun j hj => by first | omega | exact False.elim hj | (dsimp only at hj ⊢; omega))
            have f72 : 0 ≤ (it66 489 42).toInt ∧ (it66 489 42).toInt ≤ 20 := i9_f hI67 (j := 489) (k := 42) rfl
            refine ⟨fun c56 => ?_, fun c56 => ?_⟩
            · try simp only [Int32.lt_iff_toInt_lt, Int32.le_iff_toInt_le, ← Int32.toInt_inj, Int32.toInt_toInt64, tiA, tlA] at c56
              try have f73 : ((x3 + 0) : Int32).toInt = (x3).toInt + 0 := ad32 (a := (x3).toInt) (b := 0) (rfl) (ti_0) (by omega) (by omega)
              try have f74 : ((x4 + 1) : Int32).toInt = (x4).toInt + 1 := ad32 (a := (x4).toInt) (b := 1) (rfl) (ti_1) (by omega) (by omega)
              exact ih28 ((x3 + 0)) ((x4 + 1)) _ _ hI67 hK69 (by first | exact Nx_0 | omega | assumption) (by omega)
            · try simp only [Int32.lt_iff_toInt_lt, Int32.le_iff_toInt_le, ← Int32.toInt_inj, Int32.toInt_toInt64, tiA, tlA] at c56
              try have f75 : ((x3 + 1) : Int32).toInt = (x3).toInt + 1 := ad32 (a := (x3).toInt) (b := 1) (rfl) (ti_1) (by omega) (by omega)
              try have f76 : ((x4 + 1) : Int32).toInt = (x4).toInt + 1 := ad32 (a := (x4).toInt) (b := 1) (rfl) (ti_1) (by omega) (by omega)
              exact ih28 ((x3 + 1)) ((x4 + 1)) _ _ hI67 hK69 (by first | exact Nx_0 | omega | assumption) (by omega)
      have t77 := ti_0
      have t78 := ti_0
      exact ⟨_, lp28 ((6 - ((0 : Int32)).toInt).toNat + 1) ((0 : Int32)) ((0 : Int32)) _ _ hI hKr (by first | exact Nx_0 | omega | assumption) (Nat.lt_succ_self _)⟩
    · try simp only [Int32.lt_iff_toInt_lt, Int32.le_iff_toInt_le, ← Int32.toInt_inj, Int32.toInt_toInt64, tiA, tlA] at c16
      subst hp
      exact ⟨hI, hKr⟩
set_option maxRecDepth 100000 in
theorem s_X9_mean (a1 : Int32) {lg0 : LGt} {it0 : ITt} (hI : I9 lg0 it0) : w_X9_mean a1 (fun (v : Int64) (lg' : LGt) (it' : ITt) => (I9 lg' it' ∧ Kd (fun j => False) (fun k => False) lg0 it0 lg' it'))  lg0 it0 := by
  have hb_a1 := And.intro a1.le_toInt a1.toInt_lt
  have hKr : Kd (fun j => False) (fun k => False) lg0 it0 lg0 it0 := kd_r
  generalize hp : (fun (v : Int64) (lg' : LGt) (it' : ITt) => (I9 lg' it' ∧ Kd (fun j => False) (fun k => False) lg0 it0 lg' it')) = Pz
  unfold w_X9_mean
  have t0 := ti_0
  have t9 := ti_9
  have tm1 := ti_m1
  refine ⟨fun c4 => ?_, fun c4 => ?_⟩
  · try simp only [Int32.lt_iff_toInt_lt, Int32.le_iff_toInt_le, ← Int32.toInt_inj, Int32.toInt_toInt64, tiA, tlA] at c4
    subst hp
    exact ⟨hI, hKr⟩
  · try simp only [Int32.lt_iff_toInt_lt, Int32.le_iff_toInt_le, ← Int32.toInt_inj, Int32.toInt_toInt64, tiA, tlA] at c4
    have f19 : 0 ≤ (it0 489 0).toInt ∧ (it0 489 0).toInt ≤ 6 := i9_f hI (j := 489) (k := 0) rfl
    refine ⟨fun c11 => ?_, fun c11 => ?_⟩
    · try simp only [Int32.lt_iff_toInt_lt, Int32.le_iff_toInt_le, ← Int32.toInt_inj, Int32.toInt_toInt64, tiA, tlA] at c11
      have lp22 : ∀ (n : Nat) (x2 : Int32) (x3 : Int32) (lg : LGt) (it : ITt), I9 lg it → Kd (fun j => False) (fun k => False) lg0 it0 lg it → ((0 ≤ (x3).toInt) ∧ (¬ (it 489 0).toInt = 0)) → (7 - (x3).toInt).toNat < n → w_X9_mean_b22 a1 Pz  n x2 x3 lg it := by
        intro n22
        induction n22 with
        | zero => intro x2 x3 lg it _ _ _ hn; exact absurd hn (Nat.not_lt_zero _)
        | succ n22 ih22 =>
          intro x2 x3 lg22 it23 hI20 hK21 hv hn
          unfold w_X9_mean_b22
          obtain ⟨hv22_0, hv22_1⟩ := hv
          have f24 : 0 ≤ (it23 489 0).toInt ∧ (it23 489 0).toInt ≤ 6 := i9_f hI20 (j := 489) (k := 0) rfl
          refine ⟨fun c27 => ?_, fun c27 => ?_⟩
          · try simp only [Int32.lt_iff_toInt_lt, Int32.le_iff_toInt_le, ← Int32.toInt_inj, Int32.toInt_toInt64, tiA, tlA] at c27
            refine ⟨fun c46 => ?_, fun c46 => ?_⟩
            · try simp only [Int32.lt_iff_toInt_lt, Int32.le_iff_toInt_le, ← Int32.toInt_inj, Int32.toInt_toInt64, tiA, tlA] at c46
              unfold w_X9_mean_b57
              refine ⟨_, s_X9_common  (x2.toInt64) ((it23 489 0).toInt64) hI20 (i64_ne (by (try simp only [Int32.lt_iff_toInt_lt, Int32.le_iff_toInt_le, ← Int32.toInt_inj, Int32.toInt_toInt64, tiA, tlA]); omega)), ?_⟩
              intro v30 lg25 it26 hq
              obtain ⟨⟨hI27, hK28⟩, ha31⟩ := hq
              have hK29 : Kd (fun j => False) (fun k => False) lg0 it0 lg25 it26 := kd_t hK21 hK28 (fun j hj => by first | omega | exact False.elim hj | (dsimp only at hj ⊢; omega)) (fun j hj => by first | omega | exact False.elim hj | (dsimp only at hj ⊢; omega))
              try have e32 : (it26 489 0).toInt = (it23 489 0).toInt := congrArg Int32.toInt (hK28.2 0 (by first | decide | (dsimp only; decide) | omega | (dsimp only; omega))).2
              refine ⟨by assumption, ?_⟩
              subst hp
              exact ⟨hI27, hK29⟩
            · try simp only [Int32.lt_iff_toInt_lt, Int32.le_iff_toInt_le, ← Int32.toInt_inj, Int32.toInt_toInt64, tiA, tlA] at c46
              unfold w_X9_mean_b57
              refine ⟨_, s_X9_common  (x2.toInt64) ((it23 489 0).toInt64) hI20 (i64_ne (by (try simp only [Int32.lt_iff_toInt_lt, Int32.le_iff_toInt_le, ← Int32.toInt_inj, Int32.toInt_toInt64, tiA, tlA]); omega)), ?_⟩
              intro v38 lg33 it34 hq
              obtain ⟨⟨hI35, hK36⟩, ha39⟩ := hq
              have hK37 : Kd (fun j => False) (fun k => False) lg0 it0 lg33 it34 := kd_t hK21 hK36 (fun j hj => by first | omega | exact False.elim hj | (dsimp only at hj ⊢; omega)) (fun j hj => by first | omega | exact False.elim hj | (dsimp only at hj ⊢; omega))
              try have e40 : (it34 489 0).toInt = (it23 489 0).toInt := congrArg Int32.toInt (hK36.2 0 (by first | decide | (dsimp only; decide) | omega | (dsimp only; omega))).2
              refine ⟨by assumption, ?_⟩
              subst hp
              exact ⟨hI35, hK37⟩
          · try simp only [Int32.lt_iff_toInt_lt, Int32.le_iff_toInt_le, ← Int32.toInt_inj, Int32.toInt_toInt64, tiA, tlA] at c27
            have hi41 : vp_in x3 6 := vp_of (by first | omega | ((try simp only [Int32.lt_iff_toInt_lt, Int32.le_iff_toInt_le, ← Int32.toInt_inj, Int32.toInt_toInt64, tiA, tlA]); omega) | (split <;> omega)) (by first | omega | ((try simp only [Int32.lt_iff_toInt_lt, Int32.le_iff_toInt_le, ← Int32.toInt_inj, Int32.toInt_toInt64, tiA, tlA]); omega) | (split <;> omega))
            refine ⟨hi41, ?_⟩
            have hz42 := vlt hi41
            try have f43 : ((x2 + (it23 490 x3.toNatClampNeg)) : Int32).toInt = (x2).toInt + ((it23 490 x3.toNatClampNeg)).toInt := ad32 (a := (x2).toInt) (b := ((it23 490 x3.toNatClampNeg)).toInt) (rfl) (rfl) (by omega) (by omega)
            try have f44 : ((x3 + 1) : Int32).toInt = (x3).toInt + 1 := ad32 (a := (x3).toInt) (b := 1) (rfl) (ti_1) (by omega) (by omega)
            exact ih22 ((x2 + (it23 490 x3.toNatClampNeg))) ((x3 + 1)) _ _ hI20 hK21 (by refine ⟨?_, ?_⟩ <;> first | exact Nx_0 | omega | assumption | exact Or.inl rfl | exact Or.inr rfl | exact i8_1 (by assumption) (by assumption) | decide) (by omega)
      have t45 := ti_0
      have t46 := ti_0
      exact ⟨_, lp22 ((7 - ((0 : Int32)).toInt).toNat + 1) ((0 : Int32)) ((0 : Int32)) _ _ hI hKr (by refine ⟨?_, ?_⟩ <;> first | exact Nx_0 | omega | assumption | exact Or.inl rfl | exact Or.inr rfl | exact i8_1 (by assumption) (by assumption) | decide) (Nat.lt_succ_self _)⟩
    · try simp only [Int32.lt_iff_toInt_lt, Int32.le_iff_toInt_le, ← Int32.toInt_inj, Int32.toInt_toInt64, tiA, tlA] at c11
      subst hp
      exact ⟨hI, hKr⟩
set_option maxRecDepth 100000 in
theorem s_X9_event (a1 : Int32) (a2 : Int32) {lg0 : LGt} {it0 : ITt} (hI : I9 lg0 it0) : w_X9_event a1 a2 (fun (v : Int32) (lg' : LGt) (it' : ITt) => (I9 lg' it' ∧ Kd (fun j => j = 497 ∨ j = 498) (fun k => k = 10) lg0 it0 lg' it'))  lg0 it0 := by
  have hb_a1 := And.intro a1.le_toInt a1.toInt_lt
  have hb_a2 := And.intro a2.le_toInt a2.toInt_lt
  have hKr : Kd (fun j => j = 497 ∨ j = 498) (fun k => k = 10) lg0 it0 lg0 it0 := kd_r
  generalize hp : (fun (v : Int32) (lg' : LGt) (it' : ITt) => (I9 lg' it' ∧ Kd (fun j => j = 497 ∨ j = 498) (fun k => k = 10) lg0 it0 lg' it')) = Pz
  unfold w_X9_event
  have t0 := ti_0
  have t9 := ti_9
  have tm1 := ti_m1
  have f0 := i9_f hI (j := 489) (k := 0) rfl
  have fB : (it0 489 0 - 1).toInt = (it0 489 0).toInt - 1 := sb32 rfl ti_1 (by omega) (by omega)
  refine ⟨fun c2 => ?_, fun c2 => ?_⟩
  · try simp only [Int32.lt_iff_toInt_lt, Int32.le_iff_toInt_le, ← Int32.toInt_inj, Int32.toInt_toInt64, tiA, tlA] at c2
    refine ⟨fun c21 => ?_, fun c21 => ?_⟩
    · try simp only [Int32.lt_iff_toInt_lt, Int32.le_iff_toInt_le, ← Int32.toInt_inj, Int32.toInt_toInt64, tiA, tlA] at c21
      subst hp
      exact ⟨hI, hKr⟩
    · try simp only [Int32.lt_iff_toInt_lt, Int32.le_iff_toInt_le, ← Int32.toInt_inj, Int32.toInt_toInt64, tiA, tlA] at c21
      refine ⟨fun c25 => ?_, fun c25 => ?_⟩
      · try simp only [Int32.lt_iff_toInt_lt, Int32.le_iff_toInt_le, ← Int32.toInt_inj, Int32.toInt_toInt64, tiA, tlA] at c25
        unfold w_X9_event_b38
        refine ⟨fun c40 => ?_, fun c40 => ?_⟩
        · try simp only [Int32.lt_iff_toInt_lt, Int32.le_iff_toInt_le, ← Int32.toInt_inj, Int32.toInt_toInt64, tiA, tlA] at c40
          unfold w_X9_event_b47
          refine ⟨fun c49 => ?_, fun c49 => ?_⟩
          · try simp only [Int32.lt_iff_toInt_lt, Int32.le_iff_toInt_le, ← Int32.toInt_inj, Int32.toInt_toInt64, tiA, tlA] at c49
            unfold w_X9_event_b64
            refine ⟨fun c66 => ?_, fun c66 => ?_⟩
            · try simp only [Int32.lt_iff_toInt_lt, Int32.le_iff_toInt_le, ← Int32.toInt_inj, Int32.toInt_toInt64, tiA, tlA] at c66
              unfold w_X9_event_b90
              have f35 : 0 ≤ (it0 489 10).toInt ∧ (it0 489 10).toInt ≤ 8 := i9_f hI (j := 489) (k := 10) rfl
              refine ⟨fun c96 => ?_, fun c96 => ?_⟩
              · try simp only [Int32.lt_iff_toInt_lt, Int32.le_iff_toInt_le, ← Int32.toInt_inj, Int32.toInt_toInt64, tiA, tlA] at c96
                have hi36 : vp_in (it0 489 10) 8 := vp_of (by first | omega | ((try simp only [Int32.lt_iff_toInt_lt, Int32.le_iff_toInt_le, ← Int32.toInt_inj, Int32.toInt_toInt64, tiA, tlA]); omega) | (split <;> omega)) (by first | omega | ((try simp only [Int32.lt_iff_toInt_lt, Int32.le_iff_toInt_le, ← Int32.toInt_inj, Int32.toInt_toInt64, tiA, tlA]); omega) | (split <;> omega))
                refine ⟨hi36, ?_⟩
                have hz37 := vlt hi36
                intro it38 em39
                have hI40 : I9 lg0 it38 := by rw [em39]; exact i9_u hI (ok9_n rfl) (by decide) (fun q => absurd q (by decide))
                have hK41 : Kd (fun j => j = 497 ∨ j = 498) (fun k => k = 10) lg0 it0 lg0 it38 := by rw [em39]; exact kd_ur (by decide) (by first | decide | (dsimp only; decide) | omega | (dsimp only; omega)) hKr
                have e42 : (it38 489 0).toInt = (it0 489 0).toInt := by rw [em39]; exact congrArg Int32.toInt (congrFun (u2_row (by decide)) 0)
                have e43 : (it38 489 10).toInt = (it0 489 10).toInt := by rw [em39]; exact congrArg Int32.toInt (congrFun (u2_row (by decide)) 10)
                have f44 : 0 ≤ (it38 489 10).toInt ∧ (it38 489 10).toInt ≤ 8 := i9_f hI40 (j := 489) (k := 10) rfl
                have hi45 : vp_in (it38 489 10) 8 := vp_of (by first | omega | ((try simp only [Int32.lt_iff_toInt_lt, Int32.le_iff_toInt_le, ← Int32.toInt_inj, Int32.toInt_toInt64, tiA, tlA]); omega) | (split <;> omega)) (by first | omega | ((try simp only [Int32.lt_iff_toInt_lt, Int32.le_iff_toInt_le, ← Int32.toInt_inj, Int32.toInt_toInt64, tiA, tlA]); omega) | (split <;> omega))
                refine ⟨hi45, ?_⟩
                have hz46 := vlt hi45
                intro it47 em48
                have hI49 : I9 lg0 it47 := by rw [em48]; exact i9_u hI40 (ok9_b (a := 0) (b := 9) rfl (by first | decide | ((try simp only [Int32.lt_iff_toInt_lt, Int32.le_iff_toInt_le, ← Int32.toInt_inj, Int32.toInt_toInt64, tiA, tlA]); omega) | (split <;> (try simp only [Int32.lt_iff_toInt_lt, Int32.le_iff_toInt_le, ← Int32.toInt_inj, Int32.toInt_toInt64, tiA, tlA]) <;> omega))) (by decide) (fun q => absurd q (by decide))
                have hK50 : Kd (fun j => j = 497 ∨ j = 498) (fun k => k = 10) lg0 it0 lg0 it47 := by rw [em48]; exact kd_ur (by decide) (by first | decide | (dsimp only; decide) | omega | (dsimp only; omega)) hK41
                have e51 : (it47 489 0).toInt = (it38 489 0).toInt := by rw [em48]; exact congrArg Int32.toInt (congrFun (u2_row (by decide)) 0)
                have e52 : (it47 489 10).toInt = (it38 489 10).toInt := by rw [em48]; exact congrArg Int32.toInt (congrFun (u2_row (by decide)) 10)
                have f53 : 0 ≤ (it47 489 10).toInt ∧ (it47 489 10).toInt ≤ 8 := i9_f hI49 (j := 489) (k := 10) rfl
                try have f54 : (((it47 489 10) + 1) : Int32).toInt = ((it47 489 10)).toInt + 1 := ad32 (a := ((it47 489 10)).toInt) (b := 1) (rfl) (ti_1) (by omega) (by omega)
                intro it55 em56
                have hI57 : I9 lg0 it55 := by rw [em56]; exact i9_u hI49 (ok9_b (a := 0) (b := 8) rfl (by first | decide | ((try simp only [Int32.lt_iff_toInt_lt, Int32.le_iff_toInt_le, ← Int32.toInt_inj, Int32.toInt_toInt64, tiA, tlA]); omega) | (split <;> (try simp only [Int32.lt_iff_toInt_lt, Int32.le_iff_toInt_le, ← Int32.toInt_inj, Int32.toInt_toInt64, tiA, tlA]) <;> omega))) (by decide) (fun _ => by decide)
                have hK58 : Kd (fun j => j = 497 ∨ j = 498) (fun k => k = 10) lg0 it0 lg0 it55 := by rw [em56]; exact kd_uf (by first | decide | (dsimp only; decide) | omega | (dsimp only; omega)) hK50
                have e59 : (it55 489 0).toInt = (it47 489 0).toInt := by rw [em56]; exact congrArg Int32.toInt (u2_ne (by decide))
                have e61 : (it55 489 10).toInt = (((it47 489 10) + 1) : Int32).toInt := by rw [em56]; exact congrArg Int32.toInt u2_eq
                have f62 : 0 ≤ (it55 489 10).toInt ∧ (it55 489 10).toInt ≤ 8 := i9_f hI57 (j := 489) (k := 10) rfl
                subst hp
                exact ⟨hI57, hK58⟩
              · try simp only [Int32.lt_iff_toInt_lt, Int32.le_iff_toInt_le, ← Int32.toInt_inj, Int32.toInt_toInt64, tiA, tlA] at c96
                subst hp
                exact ⟨hI, hKr⟩
            · try simp only [Int32.lt_iff_toInt_lt, Int32.le_iff_toInt_le, ← Int32.toInt_inj, Int32.toInt_toInt64, tiA, tlA] at c66
              refine ⟨fun c78 => ?_, fun c78 => ?_⟩
              · try simp only [Int32.lt_iff_toInt_lt, Int32.le_iff_toInt_le, ← Int32.toInt_inj, Int32.toInt_toInt64, tiA, tlA] at c78
                unfold w_X9_event_b90
                have f63 : 0 ≤ (it0 489 10).toInt ∧ (it0 489 10).toInt ≤ 8 := i9_f hI (j := 489) (k := 10) rfl
                refine ⟨fun c96 => ?_, fun c96 => ?_⟩
                · try simp only [Int32.lt_iff_toInt_lt, Int32.le_iff_toInt_le, ← Int32.toInt_inj, Int32.toInt_toInt64, tiA, tlA] at c96
                  have hi64 : vp_in (it0 489 10) 8 := vp_of (by first | omega | ((try simp only [Int32.lt_iff_toInt_lt, Int32.le_iff_toInt_le, ← Int32.toInt_inj, Int32.toInt_toInt64, tiA, tlA]); omega) | (split <;> omega)) (by first | omega | ((try simp only [Int32.lt_iff_toInt_lt, Int32.le_iff_toInt_le, ← Int32.toInt_inj, Int32.toInt_toInt64, tiA, tlA]); omega) | (split <;> omega))
                  refine ⟨hi64, ?_⟩
                  have hz65 := vlt hi64
                  intro it66 em67
                  have hI68 : I9 lg0 it66 := by rw [em67]; exact i9_u hI (ok9_n rfl) (by decide) (fun q => absurd q (by decide))
                  have hK69 : Kd (fun j => j = 497 ∨ j = 498) (fun k => k = 10) lg0 it0 lg0 it66 := by rw [em67]; exact kd_ur (by decide) (by first | decide | (dsimp only; decide) | omega | (dsimp only; omega)) hKr
                  have e70 : (it66 489 0).toInt = (it0 489 0).toInt := by rw [em67]; exact congrArg Int32.toInt (congrFun (u2_row (by decide)) 0)
                  have e71 : (it66 489 10).toInt = (it0 489 10).toInt := by rw [em67]; exact congrArg Int32.toInt (congrFun (u2_row (by decide)) 10)
                  have f72 : 0 ≤ (it66 489 10).toInt ∧ (it66 489 10).toInt ≤ 8 := i9_f hI68 (j := 489) (k := 10) rfl
                  have hi73 : vp_in (it66 489 10) 8 := vp_of (by first | omega | ((try simp only [Int32.lt_iff_toInt_lt, Int32.le_iff_toInt_le, ← Int32.toInt_inj, Int32.toInt_toInt64, tiA, tlA]); omega) | (split <;> omega)) (by first | omega | ((try simp only [Int32.lt_iff_toInt_lt, Int32.le_iff_toInt_le, ← Int32.toInt_inj, Int32.toInt_toInt64, tiA, tlA]); omega) | (split <;> omega))
                  refine ⟨hi73, ?_⟩
                  have hz74 := vlt hi73
                  intro it75 em76
                  have hI77 : I9 lg0 it75 := by rw [em76]; exact i9_u hI68 (ok9_b (a := 0) (b := 9) rfl (by first | decide | ((try simp only [Int32.lt_iff_toInt_lt, Int32.le_iff_toInt_le, ← Int32.toInt_inj, Int32.toInt_toInt64, tiA, tlA]); omega) | (split <;> (try simp only [Int32.lt_iff_toInt_lt, Int32.le_iff_toInt_le, ← Int32.toInt_inj, Int32.toInt_toInt64, tiA, tlA]) <;> omega))) (by decide) (fun q => absurd q (by decide))
                  have hK78 : Kd (fun j => j = 497 ∨ j = 498) (fun k => k = 10) lg0 it0 lg0 it75 := by rw [em76]; exact kd_ur (by decide) (by first | decide | (dsimp only; decide) | omega | (dsimp only; omega)) hK69
                  have e79 : (it75 489 0).toInt = (it66 489 0).toInt := by rw [em76]; exact congrArg Int32.toInt (congrFun (u2_row (by decide)) 0)
                  have e80 : (it75 489 10).toInt = (it66 489 10).toInt := by rw [em76]; exact congrArg Int32.toInt (congrFun (u2_row (by decide)) 10)
                  have f81 : 0 ≤ (it75 489 10).toInt ∧ (it75 489 10).toInt ≤ 8 := i9_f hI77 (j := 489) (k := 10) rfl
                  try have f82 : (((it75 489 10) + 1) : Int32).toInt = ((it75 489 10)).toInt + 1 := ad32 (a := ((it75 489 10)).toInt) (b := 1) (rfl) (ti_1) (by omega) (by omega)
                  intro it83 em84
                  have hI85 : I9 lg0 it83 := by rw [em84]; exact i9_u hI77 (ok9_b (a := 0) (b := 8) rfl (by first | decide | ((try simp only [Int32.lt_iff_toInt_lt, Int32.le_iff_toInt_le, ← Int32.toInt_inj, Int32.toInt_toInt64, tiA, tlA]); omega) | (split <;> (try simp only [Int32.lt_iff_toInt_lt, Int32.le_iff_toInt_le, ← Int32.toInt_inj, Int32.toInt_toInt64, tiA, tlA]) <;> omega))) (by decide) (fun _ => by decide)
                  have hK86 : Kd (fun j => j = 497 ∨ j = 498) (fun k => k = 10) lg0 it0 lg0 it83 := by rw [em84]; exact kd_uf (by first | decide | (dsimp only; decide) | omega | (dsimp only; omega)) hK78
                  have e87 : (it83 489 0).toInt = (it75 489 0).toInt := by rw [em84]; exact congrArg Int32.toInt (u2_ne (by decide))
                  have e89 : (it83 489 10).toInt = (((it75 489 10) + 1) : Int32).toInt := by rw [em84]; exact congrArg Int32.toInt u2_eq
                  have f90 : 0 ≤ (it83 489 10).toInt ∧ (it83 489 10).toInt ≤ 8 := i9_f hI85 (j := 489) (k := 10) rfl
                  subst hp
                  exact ⟨hI85, hK86⟩
                · try simp only [Int32.lt_iff_toInt_lt, Int32.le_iff_toInt_le, ← Int32.toInt_inj, Int32.toInt_toInt64, tiA, tlA] at c96
                  subst hp
                  exact ⟨hI, hKr⟩
              · try simp only [Int32.lt_iff_toInt_lt, Int32.le_iff_toInt_le, ← Int32.toInt_inj, Int32.toInt_toInt64, tiA, tlA] at c78
                refine ⟨fun c84 => ?_, fun c84 => ?_⟩
                · try simp only [Int32.lt_iff_toInt_lt, Int32.le_iff_toInt_le, ← Int32.toInt_inj, Int32.toInt_toInt64, tiA, tlA] at c84
                  unfold w_X9_event_b90
                  have f91 : 0 ≤ (it0 489 10).toInt ∧ (it0 489 10).toInt ≤ 8 := i9_f hI (j := 489) (k := 10) rfl
                  refine ⟨fun c96 => ?_, fun c96 => ?_⟩
                  · try simp only [Int32.lt_iff_toInt_lt, Int32.le_iff_toInt_le, ← Int32.toInt_inj, Int32.toInt_toInt64, tiA, tlA] at c96
                    have hi92 : vp_in (it0 489 10) 8 := vp_of (by first | omega | ((try simp only [Int32.lt_iff_toInt_lt, Int32.le_iff_toInt_le, ← Int32.toInt_inj, Int32.toInt_toInt64, tiA, tlA]); omega) | (split <;> omega)) (by first | omega | ((try simp only [Int32.lt_iff_toInt_lt, Int32.le_iff_toInt_le, ← Int32.toInt_inj, Int32.toInt_toInt64, tiA, tlA]); omega) | (split <;> omega))
                    refine ⟨hi92, ?_⟩
                    have hz93 := vlt hi92
                    intro it94 em95
                    have hI96 : I9 lg0 it94 := by rw [em95]; exact i9_u hI (ok9_n rfl) (by decide) (fun q => absurd q (by decide))
                    have hK97 : Kd (fun j => j = 497 ∨ j = 498) (fun k => k = 10) lg0 it0 lg0 it94 := by rw [em95]; exact kd_ur (by decide) (by first | decide | (dsimp only; decide) | omega | (dsimp only; omega)) hKr
                    have e98 : (it94 489 0).toInt = (it0 489 0).toInt := by rw [em95]; exact congrArg Int32.toInt (congrFun (u2_row (by decide)) 0)
                    have e99 : (it94 489 10).toInt = (it0 489 10).toInt := by rw [em95]; exact congrArg Int32.toInt (congrFun (u2_row (by decide)) 10)
                    have f100 : 0 ≤ (it94 489 10).toInt ∧ (it94 489 10).toInt ≤ 8 := i9_f hI96 (j := 489) (k := 10) rfl
                    have hi101 : vp_in (it94 489 10) 8 := vp_of (by first | omega | ((try simp only [Int32.lt_iff_toInt_lt, Int32.le_iff_toInt_le, ← Int32.toInt_inj, Int32.toInt_toInt64, tiA, tlA]); omega) | (split <;> omega)) (by first | omega | ((try simp only [Int32.lt_iff_toInt_lt, Int32.le_iff_toInt_le, ← Int32.toInt_inj, Int32.toInt_toInt64, tiA, tlA]); omega) | (split <;> omega))
                    refine ⟨hi101, ?_⟩
                    have hz102 := vlt hi101
                    intro it103 em104
                    have hI105 : I9 lg0 it103 := by rw [em104]; exact i9_u hI96 (ok9_b (a := 0) (b := 9) rfl (by first | decide | ((try simp only [Int32.lt_iff_toInt_lt, Int32.le_iff_toInt_le, ← Int32.toInt_inj, Int32.toInt_toInt64, tiA, tlA]); omega) | (split <;> (try simp only [Int32.lt_iff_toInt_lt, Int32.le_iff_toInt_le, ← Int32.toInt_inj, Int32.toInt_toInt64, tiA, tlA]) <;> omega))) (by decide) (fun q => absurd q (by decide))
                    have hK106 : Kd (fun j => j = 497 ∨ j = 498) (fun k => k = 10) lg0 it0 lg0 it103 := by rw [em104]; exact kd_ur (by decide) (by first | decide | (dsimp only; decide) | omega | (dsimp only; omega)) hK97
                    have e107 : (it103 489 0).toInt = (it94 489 0).toInt := by rw [em104]; exact congrArg Int32.toInt (congrFun (u2_row (by decide)) 0)
                    have e108 : (it103 489 10).toInt = (it94 489 10).toInt := by rw [em104]; exact congrArg Int32.toInt (congrFun (u2_row (by decide)) 10)
                    have f109 : 0 ≤ (it103 489 10).toInt ∧ (it103 489 10).toInt ≤ 8 := i9_f hI105 (j := 489) (k := 10) rfl
                    try have f110 : (((it103 489 10) + 1) : Int32).toInt = ((it103 489 10)).toInt + 1 := ad32 (a := ((it103 489 10)).toInt) (b := 1) (rfl) (ti_1) (by omega) (by omega)
                    intro it111 em112
                    have hI113 : I9 lg0 it111 := by rw [em112]; exact i9_u hI105 (ok9_b (a := 0) (b := 8) rfl (by first | decide | ((try simp only [Int32.lt_iff_toInt_lt, Int32.le_iff_toInt_le, ← Int32.toInt_inj, Int32.toInt_toInt64, tiA, tlA]); omega) | (split <;> (try simp only [Int32.lt_iff_toInt_lt, Int32.le_iff_toInt_le, ← Int32.toInt_inj, Int32.toInt_toInt64, tiA, tlA]) <;> omega))) (by decide) (fun _ => by decide)
                    have hK114 : Kd (fun j => j = 497 ∨ j = 498) (fun k => k = 10) lg0 it0 lg0 it111 := by rw [em112]; exact kd_uf (by first | decide | (dsimp only; decide) | omega | (dsimp only; omega)) hK106
                    have e115 : (it111 489 0).toInt = (it103 489 0).toInt := by rw [em112]; exact congrArg Int32.toInt (u2_ne (by decide))
                    have e117 : (it111 489 10).toInt = (((it103 489 10) + 1) : Int32).toInt := by rw [em112]; exact congrArg Int32.toInt u2_eq
                    have f118 : 0 ≤ (it111 489 10).toInt ∧ (it111 489 10).toInt ≤ 8 := i9_f hI113 (j := 489) (k := 10) rfl
                    subst hp
                    exact ⟨hI113, hK114⟩
                  · try simp only [Int32.lt_iff_toInt_lt, Int32.le_iff_toInt_le, ← Int32.toInt_inj, Int32.toInt_toInt64, tiA, tlA] at c96
                    subst hp
                    exact ⟨hI, hKr⟩
                · try simp only [Int32.lt_iff_toInt_lt, Int32.le_iff_toInt_le, ← Int32.toInt_inj, Int32.toInt_toInt64, tiA, tlA] at c84
                  subst hp
                  exact ⟨hI, hKr⟩
          · try simp only [Int32.lt_iff_toInt_lt, Int32.le_iff_toInt_le, ← Int32.toInt_inj, Int32.toInt_toInt64, tiA, tlA] at c49
            refine ⟨fun c61 => ?_, fun c61 => ?_⟩
            · try simp only [Int32.lt_iff_toInt_lt, Int32.le_iff_toInt_le, ← Int32.toInt_inj, Int32.toInt_toInt64, tiA, tlA] at c61
              subst hp
              exact ⟨hI, hKr⟩
            · try simp only [Int32.lt_iff_toInt_lt, Int32.le_iff_toInt_le, ← Int32.toInt_inj, Int32.toInt_toInt64, tiA, tlA] at c61
              unfold w_X9_event_b64
              refine ⟨fun c66 => ?_, fun c66 => ?_⟩
              · try simp only [Int32.lt_iff_toInt_lt, Int32.le_iff_toInt_le, ← Int32.toInt_inj, Int32.toInt_toInt64, tiA, tlA] at c66
                unfold w_X9_event_b90
                have f119 : 0 ≤ (it0 489 10).toInt ∧ (it0 489 10).toInt ≤ 8 := i9_f hI (j := 489) (k := 10) rfl
                refine ⟨fun c96 => ?_, fun c96 => ?_⟩
                · try simp only [Int32.lt_iff_toInt_lt, Int32.le_iff_toInt_le, ← Int32.toInt_inj, Int32.toInt_toInt64, tiA, tlA] at c96
                  have hi120 : vp_in (it0 489 10) 8 := vp_of (by first | omega | ((try simp only [Int32.lt_iff_toInt_lt, Int32.le_iff_toInt_le, ← Int32.toInt_inj, Int32.toInt_toInt64, tiA, tlA]); omega) | (split <;> omega)) (by first | omega | ((try simp only [Int32.lt_iff_toInt_lt, Int32.le_iff_toInt_le, ← Int32.toInt_inj, Int32.toInt_toInt64, tiA, tlA]); omega) | (split <;> omega))
                  refine ⟨hi120, ?_⟩
                  have hz121 := vlt hi120
                  intro it122 em123
                  have hI124 : I9 lg0 it122 := by rw [em123]; exact i9_u hI (ok9_n rfl) (by decide) (fun q => absurd q (by decide))
                  have hK125 : Kd (fun j => j = 497 ∨ j = 498) (fun k => k = 10) lg0 it0 lg0 it122 := by rw [em123]; exact kd_ur (by decide) (by first | decide | (dsimp only; decide) | omega | (dsimp only; omega)) hKr
                  have e126 : (it122 489 0).toInt = (it0 489 0).toInt := by rw [em123]; exact congrArg Int32.toInt (congrFun (u2_row (by decide)) 0)
                  have e127 : (it122 489 10).toInt = (it0 489 10).toInt := by rw [em123]; exact congrArg Int32.toInt (congrFun (u2_row (by decide)) 10)
                  have f128 : 0 ≤ (it122 489 10).toInt ∧ (it122 489 10).toInt ≤ 8 := i9_f hI124 (j := 489) (k := 10) rfl
                  have hi129 : vp_in (it122 489 10) 8 := vp_of (by first | omega | ((try simp only [Int32.lt_iff_toInt_lt, Int32.le_iff_toInt_le, ← Int32.toInt_inj, Int32.toInt_toInt64, tiA, tlA]); omega) | (split <;> omega)) (by first | omega | ((try simp only [Int32.lt_iff_toInt_lt, Int32.le_iff_toInt_le, ← Int32.toInt_inj, Int32.toInt_toInt64, tiA, tlA]); omega) | (split <;> omega))
                  refine ⟨hi129, ?_⟩
                  have hz130 := vlt hi129
                  intro it131 em132
                  have hI133 : I9 lg0 it131 := by rw [em132]; exact i9_u hI124 (ok9_b (a := 0) (b := 9) rfl (by first | decide | ((try simp only [Int32.lt_iff_toInt_lt, Int32.le_iff_toInt_le, ← Int32.toInt_inj, Int32.toInt_toInt64, tiA, tlA]); omega) | (split <;> (try simp only [Int32.lt_iff_toInt_lt, Int32.le_iff_toInt_le, ← Int32.toInt_inj, Int32.toInt_toInt64, tiA, tlA]) <;> omega))) (by decide) (fun q => absurd q (by decide))
                  have hK134 : Kd (fun j => j = 497 ∨ j = 498) (fun k => k = 10) lg0 it0 lg0 it131 := by rw [em132]; exact kd_ur (by decide) (by first | decide | (dsimp only; decide) | omega | (dsimp only; omega)) hK125
                  have e135 : (it131 489 0).toInt = (it122 489 0).toInt := by rw [em132]; exact congrArg Int32.toInt (congrFun (u2_row (by decide)) 0)
                  have e136 : (it131 489 10).toInt = (it122 489 10).toInt := by rw [em132]; exact congrArg Int32.toInt (congrFun (u2_row (by decide)) 10)
                  have f137 : 0 ≤ (it131 489 10).toInt ∧ (it131 489 10).toInt ≤ 8 := i9_f hI133 (j := 489) (k := 10) rfl
                  try have f138 : (((it131 489 10) + 1) : Int32).toInt = ((it131 489 10)).toInt + 1 := ad32 (a := ((it131 489 10)).toInt) (b := 1) (rfl) (ti_1) (by omega) (by omega)
                  intro it139 em140
                  have hI141 : I9 lg0 it139 := by rw [em140]; exact i9_u hI133 (ok9_b (a := 0) (b := 8) rfl (by first | decide | ((try simp only [Int32.lt_iff_toInt_lt, Int32.le_iff_toInt_le, ← Int32.toInt_inj, Int32.toInt_toInt64, tiA, tlA]); omega) | (split <;> (try simp only [Int32.lt_iff_toInt_lt, Int32.le_iff_toInt_le, ← Int32.toInt_inj, Int32.toInt_toInt64, tiA, tlA]) <;> omega))) (by decide) (fun _ => by decide)
                  have hK142 : Kd (fun j => j = 497 ∨ j = 498) (fun k => k = 10) lg0 it0 lg0 it139 := by rw [em140]; exact kd_uf (by first | decide | (dsimp only; decide) | omega | (dsimp only; omega)) hK134
                  have e143 : (it139 489 0).toInt = (it131 489 0).toInt := by rw [em140]; exact congrArg Int32.toInt (u2_ne (by decide))
                  have e145 : (it139 489 10).toInt = (((it131 489 10) + 1) : Int32).toInt := by rw [em140]; exact congrArg Int32.toInt u2_eq
                  have f146 : 0 ≤ (it139 489 10).toInt ∧ (it139 489 10).toInt ≤ 8 := i9_f hI141 (j := 489) (k := 10) rfl
                  subst hp
                  exact ⟨hI141, hK142⟩
                · try simp only [Int32.lt_iff_toInt_lt, Int32.le_iff_toInt_le, ← Int32.toInt_inj, Int32.toInt_toInt64, tiA, tlA] at c96
                  subst hp
                  exact ⟨hI, hKr⟩
              · try simp only [Int32.lt_iff_toInt_lt, Int32.le_iff_toInt_le, ← Int32.toInt_inj, Int32.toInt_toInt64, tiA, tlA] at c66
                refine ⟨fun c78 => ?_, fun c78 => ?_⟩
                · try simp only [Int32.lt_iff_toInt_lt, Int32.le_iff_toInt_le, ← Int32.toInt_inj, Int32.toInt_toInt64, tiA, tlA] at c78
                  unfold w_X9_event_b90
                  have f147 : 0 ≤ (it0 489 10).toInt ∧ (it0 489 10).toInt ≤ 8 := i9_f hI (j := 489) (k := 10) rfl
                  refine ⟨fun c96 => ?_, fun c96 => ?_⟩
                  · try simp only [Int32.lt_iff_toInt_lt, Int32.le_iff_toInt_le, ← Int32.toInt_inj, Int32.toInt_toInt64, tiA, tlA] at c96
                    have hi148 : vp_in (it0 489 10) 8 := vp_of (by first | omega | ((try simp only [Int32.lt_iff_toInt_lt, Int32.le_iff_toInt_le, ← Int32.toInt_inj, Int32.toInt_toInt64, tiA, tlA]); omega) | (split <;> omega)) (by first | omega | ((try simp only [Int32.lt_iff_toInt_lt, Int32.le_iff_toInt_le, ← Int32.toInt_inj, Int32.toInt_toInt64, tiA, tlA]); omega) | (split <;> omega))
                    refine ⟨hi148, ?_⟩
                    have hz149 := vlt hi148
                    intro it150 em151
                    have hI152 : I9 lg0 it150 := by rw [em151]; exact i9_u hI (ok9_n rfl) (by decide) (fun q => absurd q (by decide))
                    have hK153 : Kd (fun j => j = 497 ∨ j = 498) (fun k => k = 10) lg0 it0 lg0 it150 := by rw [em151]; exact kd_ur (by decide) (by first | decide | (dsimp only; decide) | omega | (dsimp only; omega)) hKr
                    have e154 : (it150 489 0).toInt = (it0 489 0).toInt := by rw [em151]; exact congrArg Int32.toInt (congrFun (u2_row (by decide)) 0)
                    have e155 : (it150 489 10).toInt = (it0 489 10).toInt := by rw [em151]; exact congrArg Int32.toInt (congrFun (u2_row (by decide)) 10)
                    have f156 : 0 ≤ (it150 489 10).toInt ∧ (it150 489 10).toInt ≤ 8 := i9_f hI152 (j := 489) (k := 10) rfl
                    have hi157 : vp_in (it150 489 10) 8 := vp_of (by first | omega | ((try simp only [Int32.lt_iff_toInt_lt, Int32.le_iff_toInt_le, ← Int32.toInt_inj, Int32.toInt_toInt64, tiA, tlA]); omega) | (split <;> omega)) (by first | omega | ((try simp only [Int32.lt_iff_toInt_lt, Int32.le_iff_toInt_le, ← Int32.toInt_inj, Int32.toInt_toInt64, tiA, tlA]); omega) | (split <;> omega))
                    refine ⟨hi157, ?_⟩
                    have hz158 := vlt hi157
                    intro it159 em160
                    have hI161 : I9 lg0 it159 := by rw [em160]; exact i9_u hI152 (ok9_b (a := 0) (b := 9) rfl (by first | decide | ((try simp only [Int32.lt_iff_toInt_lt, Int32.le_iff_toInt_le, ← Int32.toInt_inj, Int32.toInt_toInt64, tiA, tlA]); omega) | (split <;> (try simp only [Int32.lt_iff_toInt_lt, Int32.le_iff_toInt_le, ← Int32.toInt_inj, Int32.toInt_toInt64, tiA, tlA]) <;> omega))) (by decide) (fun q => absurd q (by decide))
                    have hK162 : Kd (fun j => j = 497 ∨ j = 498) (fun k => k = 10) lg0 it0 lg0 it159 := by rw [em160]; exact kd_ur (by decide) (by first | decide | (dsimp only; decide) | omega | (dsimp only; omega)) hK153
                    have e163 : (it159 489 0).toInt = (it150 489 0).toInt := by rw [em160]; exact congrArg Int32.toInt (congrFun (u2_row (by decide)) 0)
                    have e164 : (it159 489 10).toInt = (it150 489 10).toInt := by rw [em160]; exact congrArg Int32.toInt (congrFun (u2_row (by decide)) 10)
                    have f165 : 0 ≤ (it159 489 10).toInt ∧ (it159 489 10).toInt ≤ 8 := i9_f hI161 (j := 489) (k := 10) rfl
                    try have f166 : (((it159 489 10) + 1) : Int32).toInt = ((it159 489 10)).toInt + 1 := ad32 (a := ((it159 489 10)).toInt) (b := 1) (rfl) (ti_1) (by omega) (by omega)
                    intro it167 em168
                    have hI169 : I9 lg0 it167 := by rw [em168]; exact i9_u hI161 (ok9_b (a := 0) (b := 8) rfl (by first | decide | ((try simp only [Int32.lt_iff_toInt_lt, Int32.le_iff_toInt_le, ← Int32.toInt_inj, Int32.toInt_toInt64, tiA, tlA]); omega) | (split <;> (try simp only [Int32.lt_iff_toInt_lt, Int32.le_iff_toInt_le, ← Int32.toInt_inj, Int32.toInt_toInt64, tiA, tlA]) <;> omega))) (by decide) (fun _ => by decide)
                    have hK170 : Kd (fun j => j = 497 ∨ j = 498) (fun k => k = 10) lg0 it0 lg0 it167 := by rw [em168]; exact kd_uf (by first | decide | (dsimp only; decide) | omega | (dsimp only; omega)) hK162
                    have e171 : (it167 489 0).toInt = (it159 489 0).toInt := by rw [em168]; exact congrArg Int32.toInt (u2_ne (by decide))
                    have e173 : (it167 489 10).toInt = (((it159 489 10) + 1) : Int32).toInt := by rw [em168]; exact congrArg Int32.toInt u2_eq
                    have f174 : 0 ≤ (it167 489 10).toInt ∧ (it167 489 10).toInt ≤ 8 := i9_f hI169 (j := 489) (k := 10) rfl
                    subst hp
                    exact ⟨hI169, hK170⟩
                  · try simp only [Int32.lt_iff_toInt_lt, Int32.le_iff_toInt_le, ← Int32.toInt_inj, Int32.toInt_toInt64, tiA, tlA] at c96
                    subst hp
                    exact ⟨hI, hKr⟩
                · try simp only [Int32.lt_iff_toInt_lt, Int32.le_iff_toInt_le, ← Int32.toInt_inj, Int32.toInt_toInt64, tiA, tlA] at c78
                  refine ⟨fun c84 => ?_, fun c84 => ?_⟩
                  · try simp only [Int32.lt_iff_toInt_lt, Int32.le_iff_toInt_le, ← Int32.toInt_inj, Int32.toInt_toInt64, tiA, tlA] at c84
                    unfold w_X9_event_b90
                    have f175 : 0 ≤ (it0 489 10).toInt ∧ (it0 489 10).toInt ≤ 8 := i9_f hI (j := 489) (k := 10) rfl
                    refine ⟨fun c96 => ?_, fun c96 => ?_⟩
                    · try simp only [Int32.lt_iff_toInt_lt, Int32.le_iff_toInt_le, ← Int32.toInt_inj, Int32.toInt_toInt64, tiA, tlA] at c96
                      have hi176 : vp_in (it0 489 10) 8 := vp_of (by first | omega | ((try simp only [Int32.lt_iff_toInt_lt, Int32.le_iff_toInt_le, ← Int32.toInt_inj, Int32.toInt_toInt64, tiA, tlA]); omega) | (split <;> omega)) (by first | omega | ((try simp only [Int32.lt_iff_toInt_lt, Int32.le_iff_toInt_le, ← Int32.toInt_inj, Int32.toInt_toInt64, tiA, tlA]); omega) | (split <;> omega))
                      refine ⟨hi176, ?_⟩
                      have hz177 := vlt hi176
                      intro it178 em179
                      have hI180 : I9 lg0 it178 := by rw [em179]; exact i9_u hI (ok9_n rfl) (by decide) (fun q => absurd q (by decide))
                      have hK181 : Kd (fun j => j = 497 ∨ j = 498) (fun k => k = 10) lg0 it0 lg0 it178 := by rw [em179]; exact kd_ur (by decide) (by first | decide | (dsimp only; decide) | omega | (dsimp only; omega)) hKr
                      have e182 : (it178 489 0).toInt = (it0 489 0).toInt := by rw [em179]; exact congrArg Int32.toInt (congrFun (u2_row (by decide)) 0)
                      have e183 : (it178 489 10).toInt = (it0 489 10).toInt := by rw [em179]; exact congrArg Int32.toInt (congrFun (u2_row (by decide)) 10)
                      have f184 : 0 ≤ (it178 489 10).toInt ∧ (it178 489 10).toInt ≤ 8 := i9_f hI180 (j := 489) (k := 10) rfl
                      have hi185 : vp_in (it178 489 10) 8 := vp_of (by first | omega | ((try simp only [Int32.lt_iff_toInt_lt, Int32.le_iff_toInt_le, ← Int32.toInt_inj, Int32.toInt_toInt64, tiA, tlA]); omega) | (split <;> omega)) (by first | omega | ((try simp only [Int32.lt_iff_toInt_lt, Int32.le_iff_toInt_le, ← Int32.toInt_inj, Int32.toInt_toInt64, tiA, tlA]); omega) | (split <;> omega))
                      refine ⟨hi185, ?_⟩
                      have hz186 := vlt hi185
                      intro it187 em188
                      have hI189 : I9 lg0 it187 := by rw [em188]; exact i9_u hI180 (ok9_b (a := 0) (b := 9) rfl (by first | decide | ((try simp only [Int32.lt_iff_toInt_lt, Int32.le_iff_toInt_le, ← Int32.toInt_inj, Int32.toInt_toInt64, tiA, tlA]); omega) | (split <;> (try simp only [Int32.lt_iff_toInt_lt, Int32.le_iff_toInt_le, ← Int32.toInt_inj, Int32.toInt_toInt64, tiA, tlA]) <;> omega))) (by decide) (fun q => absurd q (by decide))
                      have hK190 : Kd (fun j => j = 497 ∨ j = 498) (fun k => k = 10) lg0 it0 lg0 it187 := by rw [em188]; exact kd_ur (by decide) (by first | decide | (dsimp only; decide) | omega | (dsimp only; omega)) hK181
                      have e191 : (it187 489 0).toInt = (it178 489 0).toInt := by rw [em188]; exact congrArg Int32.toInt (congrFun (u2_row (by decide)) 0)
                      have e192 : (it187 489 10).toInt = (it178 489 10).toInt := by rw [em188]; exact congrArg Int32.toInt (congrFun (u2_row (by decide)) 10)
                      have f193 : 0 ≤ (it187 489 10).toInt ∧ (it187 489 10).toInt ≤ 8 := i9_f hI189 (j := 489) (k := 10) rfl
                      try have f194 : (((it187 489 10) + 1) : Int32).toInt = ((it187 489 10)).toInt + 1 := ad32 (a := ((it187 489 10)).toInt) (b := 1) (rfl) (ti_1) (by omega) (by omega)
                      intro it195 em196
                      have hI197 : I9 lg0 it195 := by rw [em196]; exact i9_u hI189 (ok9_b (a := 0) (b := 8) rfl (by first | decide | ((try simp only [Int32.lt_iff_toInt_lt, Int32.le_iff_toInt_le, ← Int32.toInt_inj, Int32.toInt_toInt64, tiA, tlA]); omega) | (split <;> (try simp only [Int32.lt_iff_toInt_lt, Int32.le_iff_toInt_le, ← Int32.toInt_inj, Int32.toInt_toInt64, tiA, tlA]) <;> omega))) (by decide) (fun _ => by decide)
                      have hK198 : Kd (fun j => j = 497 ∨ j = 498) (fun k => k = 10) lg0 it0 lg0 it195 := by rw [em196]; exact kd_uf (by first | decide | (dsimp only; decide) | omega | (dsimp only; omega)) hK190
                      have e199 : (it195 489 0).toInt = (it187 489 0).toInt := by rw [em196]; exact congrArg Int32.toInt (u2_ne (by decide))
                      have e201 : (it195 489 10).toInt = (((it187 489 10) + 1) : Int32).toInt := by rw [em196]; exact congrArg Int32.toInt u2_eq
                      have f202 : 0 ≤ (it195 489 10).toInt ∧ (it195 489 10).toInt ≤ 8 := i9_f hI197 (j := 489) (k := 10) rfl
                      subst hp
                      exact ⟨hI197, hK198⟩
                    · try simp only [Int32.lt_iff_toInt_lt, Int32.le_iff_toInt_le, ← Int32.toInt_inj, Int32.toInt_toInt64, tiA, tlA] at c96
                      subst hp
                      exact ⟨hI, hKr⟩
                  · try simp only [Int32.lt_iff_toInt_lt, Int32.le_iff_toInt_le, ← Int32.toInt_inj, Int32.toInt_toInt64, tiA, tlA] at c84
                    subst hp
                    exact ⟨hI, hKr⟩
        · try simp only [Int32.lt_iff_toInt_lt, Int32.le_iff_toInt_le, ← Int32.toInt_inj, Int32.toInt_toInt64, tiA, tlA] at c40
          refine ⟨fun c44 => ?_, fun c44 => ?_⟩
          · try simp only [Int32.lt_iff_toInt_lt, Int32.le_iff_toInt_le, ← Int32.toInt_inj, Int32.toInt_toInt64, tiA, tlA] at c44
            subst hp
            exact ⟨hI, hKr⟩
          · try simp only [Int32.lt_iff_toInt_lt, Int32.le_iff_toInt_le, ← Int32.toInt_inj, Int32.toInt_toInt64, tiA, tlA] at c44
            unfold w_X9_event_b47
            refine ⟨fun c49 => ?_, fun c49 => ?_⟩
            · try simp only [Int32.lt_iff_toInt_lt, Int32.le_iff_toInt_le, ← Int32.toInt_inj, Int32.toInt_toInt64, tiA, tlA] at c49
              unfold w_X9_event_b64
              refine ⟨fun c66 => ?_, fun c66 => ?_⟩
              · try simp only [Int32.lt_iff_toInt_lt, Int32.le_iff_toInt_le, ← Int32.toInt_inj, Int32.toInt_toInt64, tiA, tlA] at c66
                unfold w_X9_event_b90
                have f203 : 0 ≤ (it0 489 10).toInt ∧ (it0 489 10).toInt ≤ 8 := i9_f hI (j := 489) (k := 10) rfl
                refine ⟨fun c96 => ?_, fun c96 => ?_⟩
                · try simp only [Int32.lt_iff_toInt_lt, Int32.le_iff_toInt_le, ← Int32.toInt_inj, Int32.toInt_toInt64, tiA, tlA] at c96
                  have hi204 : vp_in (it0 489 10) 8 := vp_of (by first | omega | ((try simp only [Int32.lt_iff_toInt_lt, Int32.le_iff_toInt_le, ← Int32.toInt_inj, Int32.toInt_toInt64, tiA, tlA]); omega) | (split <;> omega)) (by first | omega | ((try simp only [Int32.lt_iff_toInt_lt, Int32.le_iff_toInt_le, ← Int32.toInt_inj, Int32.toInt_toInt64, tiA, tlA]); omega) | (split <;> omega))
                  refine ⟨hi204, ?_⟩
                  have hz205 := vlt hi204
                  intro it206 em207
                  have hI208 : I9 lg0 it206 := by rw [em207]; exact i9_u hI (ok9_n rfl) (by decide) (fun q => absurd q (by decide))
                  have hK209 : Kd (fun j => j = 497 ∨ j = 498) (fun k => k = 10) lg0 it0 lg0 it206 := by rw [em207]; exact kd_ur (by decide) (by first | decide | (dsimp only; decide) | omega | (dsimp only; omega)) hKr
                  have e210 : (it206 489 0).toInt = (it0 489 0).toInt := by rw [em207]; exact congrArg Int32.toInt (congrFun (u2_row (by decide)) 0)
                  have e211 : (it206 489 10).toInt = (it0 489 10).toInt := by rw [em207]; exact congrArg Int32.toInt (congrFun (u2_row (by decide)) 10)
                  have f212 : 0 ≤ (it206 489 10).toInt ∧ (it206 489 10).toInt ≤ 8 := i9_f hI208 (j := 489) (k := 10) rfl
                  have hi213 : vp_in (it206 489 10) 8 := vp_of (by first | omega | ((try simp only [Int32.lt_iff_toInt_lt, Int32.le_iff_toInt_le, ← Int32.toInt_inj, Int32.toInt_toInt64, tiA, tlA]); omega) | (split <;> omega)) (by first | omega | ((try simp only [Int32.lt_iff_toInt_lt, Int32.le_iff_toInt_le, ← Int32.toInt_inj, Int32.toInt_toInt64, tiA, tlA]); omega) | (split <;> omega))
                  refine ⟨hi213, ?_⟩
                  have hz214 := vlt hi213
                  intro it215 em216
                  have hI217 : I9 lg0 it215 := by rw [em216]; exact i9_u hI208 (ok9_b (a := 0) (b := 9) rfl (by first | decide | ((try simp only [Int32.lt_iff_toInt_lt, Int32.le_iff_toInt_le, ← Int32.toInt_inj, Int32.toInt_toInt64, tiA, tlA]); omega) | (split <;> (try simp only [Int32.lt_iff_toInt_lt, Int32.le_iff_toInt_le, ← Int32.toInt_inj, Int32.toInt_toInt64, tiA, tlA]) <;> omega))) (by decide) (fun q => absurd q (by decide))
                  have hK218 : Kd (fun j => j = 497 ∨ j = 498) (fun k => k = 10) lg0 it0 lg0 it215 := by rw [em216]; exact kd_ur (by decide) (by first | decide | (dsimp only; decide) | omega | (dsimp only; omega)) hK209
                  have e219 : (it215 489 0).toInt = (it206 489 0).toInt := by rw [em216]; exact congrArg Int32.toInt (congrFun (u2_row (by decide)) 0)
                  have e220 : (it215 489 10).toInt = (it206 489 10).toInt := by rw [em216]; exact congrArg Int32.toInt (congrFun (u2_row (by decide)) 10)
                  have f221 : 0 ≤ (it215 489 10).toInt ∧ (it215 489 10).toInt ≤ 8 := i9_f hI217 (j := 489) (k := 10) rfl
                  try have f222 : (((it215 489 10) + 1) : Int32).toInt = ((it215 489 10)).toInt + 1 := ad32 (a := ((it215 489 10)).toInt) (b := 1) (rfl) (ti_1) (by omega) (by omega)
                  intro it223 em224
                  have hI225 : I9 lg0 it223 := by rw [em224]; exact i9_u hI217 (ok9_b (a := 0) (b := 8) rfl (by first | decide | ((try simp only [Int32.lt_iff_toInt_lt, Int32.le_iff_toInt_le, ← Int32.toInt_inj, Int32.toInt_toInt64, tiA, tlA]); omega) | (split <;> (try simp only [Int32.lt_iff_toInt_lt, Int32.le_iff_toInt_le, ← Int32.toInt_inj, Int32.toInt_toInt64, tiA, tlA]) <;> omega))) (by decide) (fun _ => by decide)
                  have hK226 : Kd (fun j => j = 497 ∨ j = 498) (fun k => k = 10) lg0 it0 lg0 it223 := by rw [em224]; exact kd_uf (by first | decide | (dsimp only; decide) | omega | (dsimp only; omega)) hK218
                  have e227 : (it223 489 0).toInt = (it215 489 0).toInt := by rw [em224]; exact congrArg Int32.toInt (u2_ne (by decide))
                  have e229 : (it223 489 10).toInt = (((it215 489 10) + 1) : Int32).toInt := by rw [em224]; exact congrArg Int32.toInt u2_eq
                  have f230 : 0 ≤ (it223 489 10).toInt ∧ (it223 489 10).toInt ≤ 8 := i9_f hI225 (j := 489) (k := 10) rfl
                  subst hp
                  exact ⟨hI225, hK226⟩
                · try simp only [Int32.lt_iff_toInt_lt, Int32.le_iff_toInt_le, ← Int32.toInt_inj, Int32.toInt_toInt64, tiA, tlA] at c96
                  subst hp
                  exact ⟨hI, hKr⟩
              · try simp only [Int32.lt_iff_toInt_lt, Int32.le_iff_toInt_le, ← Int32.toInt_inj, Int32.toInt_toInt64, tiA, tlA] at c66
                refine ⟨fun c78 => ?_, fun c78 => ?_⟩
                · try simp only [Int32.lt_iff_toInt_lt, Int32.le_iff_toInt_le, ← Int32.toInt_inj, Int32.toInt_toInt64, tiA, tlA] at c78
                  unfold w_X9_event_b90
                  have f231 : 0 ≤ (it0 489 10).toInt ∧ (it0 489 10).toInt ≤ 8 := i9_f hI (j := 489) (k := 10) rfl
                  refine ⟨fun c96 => ?_, fun c96 => ?_⟩
                  · try simp only [Int32.lt_iff_toInt_lt, Int32.le_iff_toInt_le, ← Int32.toInt_inj, Int32.toInt_toInt64, tiA, tlA] at c96
                    have hi232 : vp_in (it0 489 10) 8 := vp_of (by first | omega | ((try simp only [Int32.lt_iff_toInt_lt, Int32.le_iff_toInt_le, ← Int32.toInt_inj, Int32.toInt_toInt64, tiA, tlA]); omega) | (split <;> omega)) (by first | omega | ((try simp only [Int32.lt_iff_toInt_lt, Int32.le_iff_toInt_le, ← Int32.toInt_inj, Int32.toInt_toInt64, tiA, tlA]); omega) | (split <;> omega))
                    refine ⟨hi232, ?_⟩
                    have hz233 := vlt hi232
                    intro it234 em235
                    have hI236 : I9 lg0 it234 := by rw [em235]; exact i9_u hI (ok9_n rfl) (by decide) (fun q => absurd q (by decide))
                    have hK237 : Kd (fun j => j = 497 ∨ j = 498) (fun k => k = 10) lg0 it0 lg0 it234 := by rw [em235]; exact kd_ur (by decide) (by first | decide | (dsimp only; decide) | omega | (dsimp only; omega)) hKr
                    have e238 : (it234 489 0).toInt = (it0 489 0).toInt := by rw [em235]; exact congrArg Int32.toInt (congrFun (u2_row (by decide)) 0)
                    have e239 : (it234 489 10).toInt = (it0 489 10).toInt := by rw [em235]; exact congrArg Int32.toInt (congrFun (u2_row (by decide)) 10)
                    have f240 : 0 ≤ (it234 489 10).toInt ∧ (it234 489 10).toInt ≤ 8 := i9_f hI236 (j := 489) (k := 10) rfl
                    have hi241 : vp_in (it234 489 10) 8 := vp_of (by first | omega | ((try simp only [Int32.lt_iff_toInt_lt, Int32.le_iff_toInt_le, ← Int32.toInt_inj, Int32.toInt_toInt64, tiA, tlA]); omega) | (split <;> omega)) (by first | omega | ((try simp only [Int32.lt_iff_toInt_lt, Int32.le_iff_toInt_le, ← Int32.toInt_inj, Int32.toInt_toInt64, tiA, tlA]); omega) | (split <;> omega))
                    refine ⟨hi241, ?_⟩
                    have hz242 := vlt hi241
                    intro it243 em244
                    have hI245 : I9 lg0 it243 := by rw [em244]; exact i9_u hI236 (ok9_b (a := 0) (b := 9) rfl (by first | decide | ((try simp only [Int32.lt_iff_toInt_lt, Int32.le_iff_toInt_le, ← Int32.toInt_inj, Int32.toInt_toInt64, tiA, tlA]); omega) | (split <;> (try simp only [Int32.lt_iff_toInt_lt, Int32.le_iff_toInt_le, ← Int32.toInt_inj, Int32.toInt_toInt64, tiA, tlA]) <;> omega))) (by decide) (fun q => absurd q (by decide))
                    have hK246 : Kd (fun j => j = 497 ∨ j = 498) (fun k => k = 10) lg0 it0 lg0 it243 := by rw [em244]; exact kd_ur (by decide) (by first | decide | (dsimp only; decide) | omega | (dsimp only; omega)) hK237
                    have e247 : (it243 489 0).toInt = (it234 489 0).toInt := by rw [em244]; exact congrArg Int32.toInt (congrFun (u2_row (by decide)) 0)
                    have e248 : (it243 489 10).toInt = (it234 489 10).toInt := by rw [em244]; exact congrArg Int32.toInt (congrFun (u2_row (by decide)) 10)
                    have f249 : 0 ≤ (it243 489 10).toInt ∧ (it243 489 10).toInt ≤ 8 := i9_f hI245 (j := 489) (k := 10) rfl
                    try have f250 : (((it243 489 10) + 1) : Int32).toInt = ((it243 489 10)).toInt + 1 := ad32 (a := ((it243 489 10)).toInt) (b := 1) (rfl) (ti_1) (by omega) (by omega)
                    intro it251 em252
                    have hI253 : I9 lg0 it251 := by rw [em252]; exact i9_u hI245 (ok9_b (a := 0) (b := 8) rfl (by first | decide | ((try simp only [Int32.lt_iff_toInt_lt, Int32.le_iff_toInt_le, ← Int32.toInt_inj, Int32.toInt_toInt64, tiA, tlA]); omega) | (split <;> (try simp only [Int32.lt_iff_toInt_lt, Int32.le_iff_toInt_le, ← Int32.toInt_inj, Int32.toInt_toInt64, tiA, tlA]) <;> omega))) (by decide) (fun _ => by decide)
                    have hK254 : Kd (fun j => j = 497 ∨ j = 498) (fun k => k = 10) lg0 it0 lg0 it251 := by rw [em252]; exact kd_uf (by first | decide | (dsimp only; decide) | omega | (dsimp only; omega)) hK246
                    have e255 : (it251 489 0).toInt = (it243 489 0).toInt := by rw [em252]; exact congrArg Int32.toInt (u2_ne (by decide))
                    have e257 : (it251 489 10).toInt = (((it243 489 10) + 1) : Int32).toInt := by rw [em252]; exact congrArg Int32.toInt u2_eq
                    have f258 : 0 ≤ (it251 489 10).toInt ∧ (it251 489 10).toInt ≤ 8 := i9_f hI253 (j := 489) (k := 10) rfl
                    subst hp
                    exact ⟨hI253, hK254⟩
                  · try simp only [Int32.lt_iff_toInt_lt, Int32.le_iff_toInt_le, ← Int32.toInt_inj, Int32.toInt_toInt64, tiA, tlA] at c96
                    subst hp
                    exact ⟨hI, hKr⟩
                · try simp only [Int32.lt_iff_toInt_lt, Int32.le_iff_toInt_le, ← Int32.toInt_inj, Int32.toInt_toInt64, tiA, tlA] at c78
                  refine ⟨fun c84 => ?_, fun c84 => ?_⟩
                  · try simp only [Int32.lt_iff_toInt_lt, Int32.le_iff_toInt_le, ← Int32.toInt_inj, Int32.toInt_toInt64, tiA, tlA] at c84
                    unfold w_X9_event_b90
                    have f259 : 0 ≤ (it0 489 10).toInt ∧ (it0 489 10).toInt ≤ 8 := i9_f hI (j := 489) (k := 10) rfl
                    refine ⟨fun c96 => ?_, fun c96 => ?_⟩
                    · try simp only [Int32.lt_iff_toInt_lt, Int32.le_iff_toInt_le, ← Int32.toInt_inj, Int32.toInt_toInt64, tiA, tlA] at c96
                      have hi260 : vp_in (it0 489 10) 8 := vp_of (by first | omega | ((try simp only [Int32.lt_iff_toInt_lt, Int32.le_iff_toInt_le, ← Int32.toInt_inj, Int32.toInt_toInt64, tiA, tlA]); omega) | (split <;> omega)) (by first | omega | ((try simp only [Int32.lt_iff_toInt_lt, Int32.le_iff_toInt_le, ← Int32.toInt_inj, Int32.toInt_toInt64, tiA, tlA]); omega) | (split <;> omega))
                      refine ⟨hi260, ?_⟩
                      have hz261 := vlt hi260
                      intro it262 em263
                      have hI264 : I9 lg0 it262 := by rw [em263]; exact i9_u hI (ok9_n rfl) (by decide) (fun q => absurd q (by decide))
                      have hK265 : Kd (fun j => j = 497 ∨ j = 498) (fun k => k = 10) lg0 it0 lg0 it262 := by rw [em263]; exact kd_ur (by decide) (by first | decide | (dsimp only; decide) | omega | (dsimp only; omega)) hKr
                      have e266 : (it262 489 0).toInt = (it0 489 0).toInt := by rw [em263]; exact congrArg Int32.toInt (congrFun (u2_row (by decide)) 0)
                      have e267 : (it262 489 10).toInt = (it0 489 10).toInt := by rw [em263]; exact congrArg Int32.toInt (congrFun (u2_row (by decide)) 10)
                      have f268 : 0 ≤ (it262 489 10).toInt ∧ (it262 489 10).toInt ≤ 8 := i9_f hI264 (j := 489) (k := 10) rfl
                      have hi269 : vp_in (it262 489 10) 8 := vp_of (by first | omega | ((try simp only [Int32.lt_iff_toInt_lt, Int32.le_iff_toInt_le, ← Int32.toInt_inj, Int32.toInt_toInt64, tiA, tlA]); omega) | (split <;> omega)) (by first | omega | ((try simp only [Int32.lt_iff_toInt_lt, Int32.le_iff_toInt_le, ← Int32.toInt_inj, Int32.toInt_toInt64, tiA, tlA]); omega) | (split <;> omega))
                      refine ⟨hi269, ?_⟩
                      have hz270 := vlt hi269
                      intro it271 em272
                      have hI273 : I9 lg0 it271 := by rw [em272]; exact i9_u hI264 (ok9_b (a := 0) (b := 9) rfl (by first | decide | ((try simp only [Int32.lt_iff_toInt_lt, Int32.le_iff_toInt_le, ← Int32.toInt_inj, Int32.toInt_toInt64, tiA, tlA]); omega) | (split <;> (try simp only [Int32.lt_iff_toInt_lt, Int32.le_iff_toInt_le, ← Int32.toInt_inj, Int32.toInt_toInt64, tiA, tlA]) <;> omega))) (by decide) (fun q => absurd q (by decide))
                      have hK274 : Kd (fun j => j = 497 ∨ j = 498) (fun k => k = 10) lg0 it0 lg0 it271 := by rw [em272]; exact kd_ur (by decide) (by first | decide | (dsimp only; decide) | omega | (dsimp only; omega)) hK265
                      have e275 : (it271 489 0).toInt = (it262 489 0).toInt := by rw [em272]; exact congrArg Int32.toInt (congrFun (u2_row (by decide)) 0)
                      have e276 : (it271 489 10).toInt = (it262 489 10).toInt := by rw [em272]; exact congrArg Int32.toInt (congrFun (u2_row (by decide)) 10)
                      have f277 : 0 ≤ (it271 489 10).toInt ∧ (it271 489 10).toInt ≤ 8 := i9_f hI273 (j := 489) (k := 10) rfl
                      try have f278 : (((it271 489 10) + 1) : Int32).toInt = ((it271 489 10)).toInt + 1 := ad32 (a := ((it271 489 10)).toInt) (b := 1) (rfl) (ti_1) (by omega) (by omega)
                      intro it279 em280
                      have hI281 : I9 lg0 it279 := by rw [em280]; exact i9_u hI273 (ok9_b (a := 0) (b := 8) rfl (by first | decide | ((try simp only [Int32.lt_iff_toInt_lt, Int32.le_iff_toInt_le, ← Int32.toInt_inj, Int32.toInt_toInt64, tiA, tlA]); omega) | (split <;> (try simp only [Int32.lt_iff_toInt_lt, Int32.le_iff_toInt_le, ← Int32.toInt_inj, Int32.toInt_toInt64, tiA, tlA]) <;> omega))) (by decide) (fun _ => by decide)
                      have hK282 : Kd (fun j => j = 497 ∨ j = 498) (fun k => k = 10) lg0 it0 lg0 it279 := by rw [em280]; exact kd_uf (by first | decide | (dsimp only; decide) | omega | (dsimp only; omega)) hK274
                      have e283 : (it279 489 0).toInt = (it271 489 0).toInt := by rw [em280]; exact congrArg Int32.toInt (u2_ne (by decide))
                      have e285 : (it279 489 10).toInt = (((it271 489 10) + 1) : Int32).toInt := by rw [em280]; exact congrArg Int32.toInt u2_eq
                      have f286 : 0 ≤ (it279 489 10).toInt ∧ (it279 489 10).toInt ≤ 8 := i9_f hI281 (j := 489) (k := 10) rfl
                      subst hp
                      exact ⟨hI281, hK282⟩
                    · try simp only [Int32.lt_iff_toInt_lt, Int32.le_iff_toInt_le, ← Int32.toInt_inj, Int32.toInt_toInt64, tiA, tlA] at c96
                      subst hp
                      exact ⟨hI, hKr⟩
                  · try simp only [Int32.lt_iff_toInt_lt, Int32.le_iff_toInt_le, ← Int32.toInt_inj, Int32.toInt_toInt64, tiA, tlA] at c84
                    subst hp
                    exact ⟨hI, hKr⟩
            · try simp only [Int32.lt_iff_toInt_lt, Int32.le_iff_toInt_le, ← Int32.toInt_inj, Int32.toInt_toInt64, tiA, tlA] at c49
              refine ⟨fun c61 => ?_, fun c61 => ?_⟩
              · try simp only [Int32.lt_iff_toInt_lt, Int32.le_iff_toInt_le, ← Int32.toInt_inj, Int32.toInt_toInt64, tiA, tlA] at c61
                subst hp
                exact ⟨hI, hKr⟩
              · try simp only [Int32.lt_iff_toInt_lt, Int32.le_iff_toInt_le, ← Int32.toInt_inj, Int32.toInt_toInt64, tiA, tlA] at c61
                unfold w_X9_event_b64
                refine ⟨fun c66 => ?_, fun c66 => ?_⟩
                · try simp only [Int32.lt_iff_toInt_lt, Int32.le_iff_toInt_le, ← Int32.toInt_inj, Int32.toInt_toInt64, tiA, tlA] at c66
                  unfold w_X9_event_b90
                  have f287 : 0 ≤ (it0 489 10).toInt ∧ (it0 489 10).toInt ≤ 8 := i9_f hI (j := 489) (k := 10) rfl
                  refine ⟨fun c96 => ?_, fun c96 => ?_⟩
                  · try simp only [Int32.lt_iff_toInt_lt, Int32.le_iff_toInt_le, ← Int32.toInt_inj, Int32.toInt_toInt64, tiA, tlA] at c96
                    have hi288 : vp_in (it0 489 10) 8 := vp_of (by first | omega | ((try simp only [Int32.lt_iff_toInt_lt, Int32.le_iff_toInt_le, ← Int32.toInt_inj, Int32.toInt_toInt64, tiA, tlA]); omega) | (split <;> omega)) (by first | omega | ((try simp only [Int32.lt_iff_toInt_lt, Int32.le_iff_toInt_le, ← Int32.toInt_inj, Int32.toInt_toInt64, tiA, tlA]); omega) | (split <;> omega))
                    refine ⟨hi288, ?_⟩
                    have hz289 := vlt hi288
                    intro it290 em291
                    have hI292 : I9 lg0 it290 := by rw [em291]; exact i9_u hI (ok9_n rfl) (by decide) (fun q => absurd q (by decide))
                    have hK293 : Kd (fun j => j = 497 ∨ j = 498) (fun k => k = 10) lg0 it0 lg0 it290 := by rw [em291]; exact kd_ur (by decide) (by first | decide | (dsimp only; decide) | omega | (dsimp only; omega)) hKr
                    have e294 : (it290 489 0).toInt = (it0 489 0).toInt := by rw [em291]; exact congrArg Int32.toInt (congrFun (u2_row (by decide)) 0)
                    have e295 : (it290 489 10).toInt = (it0 489 10).toInt := by rw [em291]; exact congrArg Int32.toInt (congrFun (u2_row (by decide)) 10)
                    have f296 : 0 ≤ (it290 489 10).toInt ∧ (it290 489 10).toInt ≤ 8 := i9_f hI292 (j := 489) (k := 10) rfl
                    have hi297 : vp_in (it290 489 10) 8 := vp_of (by first | omega | ((try simp only [Int32.lt_iff_toInt_lt, Int32.le_iff_toInt_le, ← Int32.toInt_inj, Int32.toInt_toInt64, tiA, tlA]); omega) | (split <;> omega)) (by first | omega | ((try simp only [Int32.lt_iff_toInt_lt, Int32.le_iff_toInt_le, ← Int32.toInt_inj, Int32.toInt_toInt64, tiA, tlA]); omega) | (split <;> omega))
                    refine ⟨hi297, ?_⟩
                    have hz298 := vlt hi297
                    intro it299 em300
                    have hI301 : I9 lg0 it299 := by rw [em300]; exact i9_u hI292 (ok9_b (a := 0) (b := 9) rfl (by first | decide | ((try simp only [Int32.lt_iff_toInt_lt, Int32.le_iff_toInt_le, ← Int32.toInt_inj, Int32.toInt_toInt64, tiA, tlA]); omega) | (split <;> (try simp only [Int32.lt_iff_toInt_lt, Int32.le_iff_toInt_le, ← Int32.toInt_inj, Int32.toInt_toInt64, tiA, tlA]) <;> omega))) (by decide) (fun q => absurd q (by decide))
                    have hK302 : Kd (fun j => j = 497 ∨ j = 498) (fun k => k = 10) lg0 it0 lg0 it299 := by rw [em300]; exact kd_ur (by decide) (by first | decide | (dsimp only; decide) | omega | (dsimp only; omega)) hK293
                    have e303 : (it299 489 0).toInt = (it290 489 0).toInt := by rw [em300]; exact congrArg Int32.toInt (congrFun (u2_row (by decide)) 0)
                    have e304 : (it299 489 10).toInt = (it290 489 10).toInt := by rw [em300]; exact congrArg Int32.toInt (congrFun (u2_row (by decide)) 10)
                    have f305 : 0 ≤ (it299 489 10).toInt ∧ (it299 489 10).toInt ≤ 8 := i9_f hI301 (j := 489) (k := 10) rfl
                    try have f306 : (((it299 489 10) + 1) : Int32).toInt = ((it299 489 10)).toInt + 1 := ad32 (a := ((it299 489 10)).toInt) (b := 1) (rfl) (ti_1) (by omega) (by omega)
                    intro it307 em308
                    have hI309 : I9 lg0 it307 := by rw [em308]; exact i9_u hI301 (ok9_b (a := 0) (b := 8) rfl (by first | decide | ((try simp only [Int32.lt_iff_toInt_lt, Int32.le_iff_toInt_le, ← Int32.toInt_inj, Int32.toInt_toInt64, tiA, tlA]); omega) | (split <;> (try simp only [Int32.lt_iff_toInt_lt, Int32.le_iff_toInt_le, ← Int32.toInt_inj, Int32.toInt_toInt64, tiA, tlA]) <;> omega))) (by decide) (fun _ => by decide)
                    have hK310 : Kd (fun j => j = 497 ∨ j = 498) (fun k => k = 10) lg0 it0 lg0 it307 := by rw [em308]; exact kd_uf (by first | decide | (dsimp only; decide) | omega | (dsimp only; omega)) hK302
                    have e311 : (it307 489 0).toInt = (it299 489 0).toInt := by rw [em308]; exact congrArg Int32.toInt (u2_ne (by decide))
                    have e313 : (it307 489 10).toInt = (((it299 489 10) + 1) : Int32).toInt := by rw [em308]; exact congrArg Int32.toInt u2_eq
                    have f314 : 0 ≤ (it307 489 10).toInt ∧ (it307 489 10).toInt ≤ 8 := i9_f hI309 (j := 489) (k := 10) rfl
                    subst hp
                    exact ⟨hI309, hK310⟩
                  · try simp only [Int32.lt_iff_toInt_lt, Int32.le_iff_toInt_le, ← Int32.toInt_inj, Int32.toInt_toInt64, tiA, tlA] at c96
                    subst hp
                    exact ⟨hI, hKr⟩
                · try simp only [Int32.lt_iff_toInt_lt, Int32.le_iff_toInt_le, ← Int32.toInt_inj, Int32.toInt_toInt64, tiA, tlA] at c66
                  refine ⟨fun c78 => ?_, fun c78 => ?_⟩
                  · try simp only [Int32.lt_iff_toInt_lt, Int32.le_iff_toInt_le, ← Int32.toInt_inj, Int32.toInt_toInt64, tiA, tlA] at c78
                    unfold w_X9_event_b90
                    have f315 : 0 ≤ (it0 489 10).toInt ∧ (it0 489 10).toInt ≤ 8 := i9_f hI (j := 489) (k := 10) rfl
                    refine ⟨fun c96 => ?_, fun c96 => ?_⟩
                    · try simp only [Int32.lt_iff_toInt_lt, Int32.le_iff_toInt_le, ← Int32.toInt_inj, Int32.toInt_toInt64, tiA, tlA] at c96
                      have hi316 : vp_in (it0 489 10) 8 := vp_of (by first | omega | ((try simp only [Int32.lt_iff_toInt_lt, Int32.le_iff_toInt_le, ← Int32.toInt_inj, Int32.toInt_toInt64, tiA, tlA]); omega) | (split <;> omega)) (by first | omega | ((try simp only [Int32.lt_iff_toInt_lt, Int32.le_iff_toInt_le, ← Int32.toInt_inj, Int32.toInt_toInt64, tiA, tlA]); omega) | (split <;> omega))
                      refine ⟨hi316, ?_⟩
                      have hz317 := vlt hi316
                      intro it318 em319
                      have hI320 : I9 lg0 it318 := by rw [em319]; exact i9_u hI (ok9_n rfl) (by decide) (fun q => absurd q (by decide))
                      have hK321 : Kd (fun j => j = 497 ∨ j = 498) (fun k => k = 10) lg0 it0 lg0 it318 := by rw [em319]; exact kd_ur (by decide) (by first | decide | (dsimp only; decide) | omega | (dsimp only; omega)) hKr
                      have e322 : (it318 489 0).toInt = (it0 489 0).toInt := by rw [em319]; exact congrArg Int32.toInt (congrFun (u2_row (by decide)) 0)
                      have e323 : (it318 489 10).toInt = (it0 489 10).toInt := by rw [em319]; exact congrArg Int32.toInt (congrFun (u2_row (by decide)) 10)
                      have f324 : 0 ≤ (it318 489 10).toInt ∧ (it318 489 10).toInt ≤ 8 := i9_f hI320 (j := 489) (k := 10) rfl
                      have hi325 : vp_in (it318 489 10) 8 := vp_of (by first | omega | ((try simp only [Int32.lt_iff_toInt_lt, Int32.le_iff_toInt_le, ← Int32.toInt_inj, Int32.toInt_toInt64, tiA, tlA]); omega) | (split <;> omega)) (by first | omega | ((try simp only [Int32.lt_iff_toInt_lt, Int32.le_iff_toInt_le, ← Int32.toInt_inj, Int32.toInt_toInt64, tiA, tlA]); omega) | (split <;> omega))
                      refine ⟨hi325, ?_⟩
                      have hz326 := vlt hi325
                      intro it327 em328
                      have hI329 : I9 lg0 it327 := by rw [em328]; exact i9_u hI320 (ok9_b (a := 0) (b := 9) rfl (by first | decide | ((try simp only [Int32.lt_iff_toInt_lt, Int32.le_iff_toInt_le, ← Int32.toInt_inj, Int32.toInt_toInt64, tiA, tlA]); omega) | (split <;> (try simp only [Int32.lt_iff_toInt_lt, Int32.le_iff_toInt_le, ← Int32.toInt_inj, Int32.toInt_toInt64, tiA, tlA]) <;> omega))) (by decide) (fun q => absurd q (by decide))
                      have hK330 : Kd (fun j => j = 497 ∨ j = 498) (fun k => k = 10) lg0 it0 lg0 it327 := by rw [em328]; exact kd_ur (by decide) (by first | decide | (dsimp only; decide) | omega | (dsimp only; omega)) hK321
                      have e331 : (it327 489 0).toInt = (it318 489 0).toInt := by rw [em328]; exact congrArg Int32.toInt (congrFun (u2_row (by decide)) 0)
                      have e332 : (it327 489 10).toInt = (it318 489 10).toInt := by rw [em328]; exact congrArg Int32.toInt (congrFun (u2_row (by decide)) 10)
                      have f333 : 0 ≤ (it327 489 10).toInt ∧ (it327 489 10).toInt ≤ 8 := i9_f hI329 (j := 489) (k := 10) rfl
                      try have f334 : (((it327 489 10) + 1) : Int32).toInt = ((it327 489 10)).toInt + 1 := ad32 (a := ((it327 489 10)).toInt) (b := 1) (rfl) (ti_1) (by omega) (by omega)
                      intro it335 em336
                      have hI337 : I9 lg0 it335 := by rw [em336]; exact i9_u hI329 (ok9_b (a := 0) (b := 8) rfl (by first | decide | ((try simp only [Int32.lt_iff_toInt_lt, Int32.le_iff_toInt_le, ← Int32.toInt_inj, Int32.toInt_toInt64, tiA, tlA]); omega) | (split <;> (try simp only [Int32.lt_iff_toInt_lt, Int32.le_iff_toInt_le, ← Int32.toInt_inj, Int32.toInt_toInt64, tiA, tlA]) <;> omega))) (by decide) (fun _ => by decide)
                      have hK338 : Kd (fun j => j = 497 ∨ j = 498) (fun k => k = 10) lg0 it0 lg0 it335 := by rw [em336]; exact kd_uf (by first | decide | (dsimp only; decide) | omega | (dsimp only; omega)) hK330
                      have e339 : (it335 489 0).toInt = (it327 489 0).toInt := by rw [em336]; exact congrArg Int32.toInt (u2_ne (by decide))
                      have e341 : (it335 489 10).toInt = (((it327 489 10) + 1) : Int32).toInt := by rw [em336]; exact congrArg Int32.toInt u2_eq
                      have f342 : 0 ≤ (it335 489 10).toInt ∧ (it335 489 10).toInt ≤ 8 := i9_f hI337 (j := 489) (k := 10) rfl
                      subst hp
                      exact ⟨hI337, hK338⟩
                    · try simp only [Int32.lt_iff_toInt_lt, Int32.le_iff_toInt_le, ← Int32.toInt_inj, Int32.toInt_toInt64, tiA, tlA] at c96
                      subst hp
                      exact ⟨hI, hKr⟩
                  · try simp only [Int32.lt_iff_toInt_lt, Int32.le_iff_toInt_le, ← Int32.toInt_inj, Int32.toInt_toInt64, tiA, tlA] at c78
                    refine ⟨fun c84 => ?_, fun c84 => ?_⟩
                    · try simp only [Int32.lt_iff_toInt_lt, Int32.le_iff_toInt_le, ← Int32.toInt_inj, Int32.toInt_toInt64, tiA, tlA] at c84
                      unfold w_X9_event_b90
                      have f343 : 0 ≤ (it0 489 10).toInt ∧ (it0 489 10).toInt ≤ 8 := i9_f hI (j := 489) (k := 10) rfl
                      refine ⟨fun c96 => ?_, fun c96 => ?_⟩
                      · try simp only [Int32.lt_iff_toInt_lt, Int32.le_iff_toInt_le, ← Int32.toInt_inj, Int32.toInt_toInt64, tiA, tlA] at c96
                        have hi344 : vp_in (it0 489 10) 8 := vp_of (by first | omega | ((try simp only [Int32.lt_iff_toInt_lt, Int32.le_iff_toInt_le, ← Int32.toInt_inj, Int32.toInt_toInt64, tiA, tlA]); omega) | (split <;> omega)) (by first | omega | ((try simp only [Int32.lt_iff_toInt_lt, Int32.le_iff_toInt_le, ← Int32.toInt_inj, Int32.toInt_toInt64, tiA, tlA]); omega) | (split <;> omega))
                        refine ⟨hi344, ?_⟩
                        have hz345 := vlt hi344
                        intro it346 em347
                        have hI348 : I9 lg0 it346 := by rw [em347]; exact i9_u hI (ok9_n rfl) (by decide) (fun q => absurd q (by decide))
                        have hK349 : Kd (fun j => j = 497 ∨ j = 498) (fun k => k = 10) lg0 it0 lg0 it346 := by rw [em347]; exact kd_ur (by decide) (by first | decide | (dsimp only; decide) | omega | (dsimp only; omega)) hKr
                        have e350 : (it346 489 0).toInt = (it0 489 0).toInt := by rw [em347]; exact congrArg Int32.toInt (congrFun (u2_row (by decide)) 0)
                        have e351 : (it346 489 10).toInt = (it0 489 10).toInt := by rw [em347]; exact congrArg Int32.toInt (congrFun (u2_row (by decide)) 10)
                        have f352 : 0 ≤ (it346 489 10).toInt ∧ (it346 489 10).toInt ≤ 8 := i9_f hI348 (j := 489) (k := 10) rfl
                        have hi353 : vp_in (it346 489 10) 8 := vp_of (by first | omega | ((try simp only [Int32.lt_iff_toInt_lt, Int32.le_iff_toInt_le, ← Int32.toInt_inj, Int32.toInt_toInt64, tiA, tlA]); omega) | (split <;> omega)) (by first | omega | ((try simp only [Int32.lt_iff_toInt_lt, Int32.le_iff_toInt_le, ← Int32.toInt_inj, Int32.toInt_toInt64, tiA, tlA]); omega) | (split <;> omega))
                        refine ⟨hi353, ?_⟩
                        have hz354 := vlt hi353
                        intro it355 em356
                        have hI357 : I9 lg0 it355 := by rw [em356]; exact i9_u hI348 (ok9_b (a := 0) (b := 9) rfl (by first | decide | ((try simp only [Int32.lt_iff_toInt_lt, Int32.le_iff_toInt_le, ← Int32.toInt_inj, Int32.toInt_toInt64, tiA, tlA]); omega) | (split <;> (try simp only [Int32.lt_iff_toInt_lt, Int32.le_iff_toInt_le, ← Int32.toInt_inj, Int32.toInt_toInt64, tiA, tlA]) <;> omega))) (by decide) (fun q => absurd q (by decide))
                        have hK358 : Kd (fun j => j = 497 ∨ j = 498) (fun k => k = 10) lg0 it0 lg0 it355 := by rw [em356]; exact kd_ur (by decide) (by first | decide | (dsimp only; decide) | omega | (dsimp only; omega)) hK349
                        have e359 : (it355 489 0).toInt = (it346 489 0).toInt := by rw [em356]; exact congrArg Int32.toInt (congrFun (u2_row (by decide)) 0)
                        have e360 : (it355 489 10).toInt = (it346 489 10).toInt := by rw [em356]; exact congrArg Int32.toInt (congrFun (u2_row (by decide)) 10)
                        have f361 : 0 ≤ (it355 489 10).toInt ∧ (it355 489 10).toInt ≤ 8 := i9_f hI357 (j := 489) (k := 10) rfl
                        try have f362 : (((it355 489 10) + 1) : Int32).toInt = ((it355 489 10)).toInt + 1 := ad32 (a := ((it355 489 10)).toInt) (b := 1) (rfl) (ti_1) (by omega) (by omega)
                        intro it363 em364
                        have hI365 : I9 lg0 it363 := by rw [em364]; exact i9_u hI357 (ok9_b (a := 0) (b := 8) rfl (by first | decide | ((try simp only [Int32.lt_iff_toInt_lt, Int32.le_iff_toInt_le, ← Int32.toInt_inj, Int32.toInt_toInt64, tiA, tlA]); omega) | (split <;> (try simp only [Int32.lt_iff_toInt_lt, Int32.le_iff_toInt_le, ← Int32.toInt_inj, Int32.toInt_toInt64, tiA, tlA]) <;> omega))) (by decide) (fun _ => by decide)
                        have hK366 : Kd (fun j => j = 497 ∨ j = 498) (fun k => k = 10) lg0 it0 lg0 it363 := by rw [em364]; exact kd_uf (by first | decide | (dsimp only; decide) | omega | (dsimp only; omega)) hK358
                        have e367 : (it363 489 0).toInt = (it355 489 0).toInt := by rw [em364]; exact congrArg Int32.toInt (u2_ne (by decide))
                        have e369 : (it363 489 10).toInt = (((it355 489 10) + 1) : Int32).toInt := by rw [em364]; exact congrArg Int32.toInt u2_eq
                        have f370 : 0 ≤ (it363 489 10).toInt ∧ (it363 489 10).toInt ≤ 8 := i9_f hI365 (j := 489) (k := 10) rfl
                        subst hp
                        exact ⟨hI365, hK366⟩
                      · try simp only [Int32.lt_iff_toInt_lt, Int32.le_iff_toInt_le, ← Int32.toInt_inj, Int32.toInt_toInt64, tiA, tlA] at c96
                        subst hp
                        exact ⟨hI, hKr⟩
                    · try simp only [Int32.lt_iff_toInt_lt, Int32.le_iff_toInt_le, ← Int32.toInt_inj, Int32.toInt_toInt64, tiA, tlA] at c84
                      subst hp
                      exact ⟨hI, hKr⟩
      · try simp only [Int32.lt_iff_toInt_lt, Int32.le_iff_toInt_le, ← Int32.toInt_inj, Int32.toInt_toInt64, tiA, tlA] at c25
        have f371 : 0 ≤ (it0 489 0).toInt ∧ (it0 489 0).toInt ≤ 6 := i9_f hI (j := 489) (k := 0) rfl
        refine ⟨fun c33 => ?_, fun c33 => ?_⟩
        · try simp only [Int32.lt_iff_toInt_lt, Int32.le_iff_toInt_le, ← Int32.toInt_inj, Int32.toInt_toInt64, tiA, tlA] at c33
          unfold w_X9_event_b38
          refine ⟨fun c40 => ?_, fun c40 => ?_⟩
          · try simp only [Int32.lt_iff_toInt_lt, Int32.le_iff_toInt_le, ← Int32.toInt_inj, Int32.toInt_toInt64, tiA, tlA] at c40
            unfold w_X9_event_b47
            refine ⟨fun c49 => ?_, fun c49 => ?_⟩
            · try simp only [Int32.lt_iff_toInt_lt, Int32.le_iff_toInt_le, ← Int32.toInt_inj, Int32.toInt_toInt64, tiA, tlA] at c49
              unfold w_X9_event_b64
              refine ⟨fun c66 => ?_, fun c66 => ?_⟩
              · try simp only [Int32.lt_iff_toInt_lt, Int32.le_iff_toInt_le, ← Int32.toInt_inj, Int32.toInt_toInt64, tiA, tlA] at c66
                unfold w_X9_event_b90
                have f372 : 0 ≤ (it0 489 10).toInt ∧ (it0 489 10).toInt ≤ 8 := i9_f hI (j := 489) (k := 10) rfl
                refine ⟨fun c96 => ?_, fun c96 => ?_⟩
                · try simp only [Int32.lt_iff_toInt_lt, Int32.le_iff_toInt_le, ← Int32.toInt_inj, Int32.toInt_toInt64, tiA, tlA] at c96
                  have hi373 : vp_in (it0 489 10) 8 := vp_of (by first | omega | ((try simp only [Int32.lt_iff_toInt_lt, Int32.le_iff_toInt_le, ← Int32.toInt_inj, Int32.toInt_toInt64, tiA, tlA]); omega) | (split <;> omega)) (by first | omega | ((try simp only [Int32.lt_iff_toInt_lt, Int32.le_iff_toInt_le, ← Int32.toInt_inj, Int32.toInt_toInt64, tiA, tlA]); omega) | (split <;> omega))
                  refine ⟨hi373, ?_⟩
                  have hz374 := vlt hi373
                  intro it375 em376
                  have hI377 : I9 lg0 it375 := by rw [em376]; exact i9_u hI (ok9_n rfl) (by decide) (fun q => absurd q (by decide))
                  have hK378 : Kd (fun j => j = 497 ∨ j = 498) (fun k => k = 10) lg0 it0 lg0 it375 := by rw [em376]; exact kd_ur (by decide) (by first | decide | (dsimp only; decide) | omega | (dsimp only; omega)) hKr
                  have e379 : (it375 489 0).toInt = (it0 489 0).toInt := by rw [em376]; exact congrArg Int32.toInt (congrFun (u2_row (by decide)) 0)
                  have e380 : (it375 489 10).toInt = (it0 489 10).toInt := by rw [em376]; exact congrArg Int32.toInt (congrFun (u2_row (by decide)) 10)
                  have f381 : 0 ≤ (it375 489 10).toInt ∧ (it375 489 10).toInt ≤ 8 := i9_f hI377 (j := 489) (k := 10) rfl
                  have hi382 : vp_in (it375 489 10) 8 := vp_of (by first | omega | ((try simp only [Int32.lt_iff_toInt_lt, Int32.le_iff_toInt_le, ← Int32.toInt_inj, Int32.toInt_toInt64, tiA, tlA]); omega) | (split <;> omega)) (by first | omega | ((try simp only [Int32.lt_iff_toInt_lt, Int32.le_iff_toInt_le, ← Int32.toInt_inj, Int32.toInt_toInt64, tiA, tlA]); omega) | (split <;> omega))
                  refine ⟨hi382, ?_⟩
                  have hz383 := vlt hi382
                  intro it384 em385
                  have hI386 : I9 lg0 it384 := by rw [em385]; exact i9_u hI377 (ok9_b (a := 0) (b := 9) rfl (by first | decide | ((try simp only [Int32.lt_iff_toInt_lt, Int32.le_iff_toInt_le, ← Int32.toInt_inj, Int32.toInt_toInt64, tiA, tlA]); omega) | (split <;> (try simp only [Int32.lt_iff_toInt_lt, Int32.le_iff_toInt_le, ← Int32.toInt_inj, Int32.toInt_toInt64, tiA, tlA]) <;> omega))) (by decide) (fun q => absurd q (by decide))
                  have hK387 : Kd (fun j => j = 497 ∨ j = 498) (fun k => k = 10) lg0 it0 lg0 it384 := by rw [em385]; exact kd_ur (by decide) (by first | decide | (dsimp only; decide) | omega | (dsimp only; omega)) hK378
                  have e388 : (it384 489 0).toInt = (it375 489 0).toInt := by rw [em385]; exact congrArg Int32.toInt (congrFun (u2_row (by decide)) 0)
                  have e389 : (it384 489 10).toInt = (it375 489 10).toInt := by rw [em385]; exact congrArg Int32.toInt (congrFun (u2_row (by decide)) 10)
                  have f390 : 0 ≤ (it384 489 10).toInt ∧ (it384 489 10).toInt ≤ 8 := i9_f hI386 (j := 489) (k := 10) rfl
                  try have f391 : (((it384 489 10) + 1) : Int32).toInt = ((it384 489 10)).toInt + 1 := ad32 (a := ((it384 489 10)).toInt) (b := 1) (rfl) (ti_1) (by omega) (by omega)
                  intro it392 em393
                  have hI394 : I9 lg0 it392 := by rw [em393]; exact i9_u hI386 (ok9_b (a := 0) (b := 8) rfl (by first | decide | ((try simp only [Int32.lt_iff_toInt_lt, Int32.le_iff_toInt_le, ← Int32.toInt_inj, Int32.toInt_toInt64, tiA, tlA]); omega) | (split <;> (try simp only [Int32.lt_iff_toInt_lt, Int32.le_iff_toInt_le, ← Int32.toInt_inj, Int32.toInt_toInt64, tiA, tlA]) <;> omega))) (by decide) (fun _ => by decide)
                  have hK395 : Kd (fun j => j = 497 ∨ j = 498) (fun k => k = 10) lg0 it0 lg0 it392 := by rw [em393]; exact kd_uf (by first | decide | (dsimp only; decide) | omega | (dsimp only; omega)) hK387
                  have e396 : (it392 489 0).toInt = (it384 489 0).toInt := by rw [em393]; exact congrArg Int32.toInt (u2_ne (by decide))
                  have e398 : (it392 489 10).toInt = (((it384 489 10) + 1) : Int32).toInt := by rw [em393]; exact congrArg Int32.toInt u2_eq
                  have f399 : 0 ≤ (it392 489 10).toInt ∧ (it392 489 10).toInt ≤ 8 := i9_f hI394 (j := 489) (k := 10) rfl
                  subst hp
                  exact ⟨hI394, hK395⟩
                · try simp only [Int32.lt_iff_toInt_lt, Int32.le_iff_toInt_le, ← Int32.toInt_inj, Int32.toInt_toInt64, tiA, tlA] at c96
                  subst hp
                  exact ⟨hI, hKr⟩
              · try simp only [Int32.lt_iff_toInt_lt, Int32.le_iff_toInt_le, ← Int32.toInt_inj, Int32.toInt_toInt64, tiA, tlA] at c66
                refine ⟨fun c78 => ?_, fun c78 => ?_⟩
                · try simp only [Int32.lt_iff_toInt_lt, Int32.le_iff_toInt_le, ← Int32.toInt_inj, Int32.toInt_toInt64, tiA, tlA] at c78
                  unfold w_X9_event_b90
                  have f400 : 0 ≤ (it0 489 10).toInt ∧ (it0 489 10).toInt ≤ 8 := i9_f hI (j := 489) (k := 10) rfl
                  refine ⟨fun c96 => ?_, fun c96 => ?_⟩
                  · try simp only [Int32.lt_iff_toInt_lt, Int32.le_iff_toInt_le, ← Int32.toInt_inj, Int32.toInt_toInt64, tiA, tlA] at c96
                    have hi401 : vp_in (it0 489 10) 8 := vp_of (by first | omega | ((try simp only [Int32.lt_iff_toInt_lt, Int32.le_iff_toInt_le, ← Int32.toInt_inj, Int32.toInt_toInt64, tiA, tlA]); omega) | (split <;> omega)) (by first | omega | ((try simp only [Int32.lt_iff_toInt_lt, Int32.le_iff_toInt_le, ← Int32.toInt_inj, Int32.toInt_toInt64, tiA, tlA]); omega) | (split <;> omega))
                    refine ⟨hi401, ?_⟩
                    have hz402 := vlt hi401
                    intro it403 em404
                    have hI405 : I9 lg0 it403 := by rw [em404]; exact i9_u hI (ok9_n rfl) (by decide) (fun q => absurd q (by decide))
                    have hK406 : Kd (fun j => j = 497 ∨ j = 498) (fun k => k = 10) lg0 it0 lg0 it403 := by rw [em404]; exact kd_ur (by decide) (by first | decide | (dsimp only; decide) | omega | (dsimp only; omega)) hKr
                    have e407 : (it403 489 0).toInt = (it0 489 0).toInt := by rw [em404]; exact congrArg Int32.toInt (congrFun (u2_row (by decide)) 0)
                    have e408 : (it403 489 10).toInt = (it0 489 10).toInt := by rw [em404]; exact congrArg Int32.toInt (congrFun (u2_row (by decide)) 10)
                    have f409 : 0 ≤ (it403 489 10).toInt ∧ (it403 489 10).toInt ≤ 8 := i9_f hI405 (j := 489) (k := 10) rfl
                    have hi410 : vp_in (it403 489 10) 8 := vp_of (by first | omega | ((try simp only [Int32.lt_iff_toInt_lt, Int32.le_iff_toInt_le, ← Int32.toInt_inj, Int32.toInt_toInt64, tiA, tlA]); omega) | (split <;> omega)) (by first | omega | ((try simp only [Int32.lt_iff_toInt_lt, Int32.le_iff_toInt_le, ← Int32.toInt_inj, Int32.toInt_toInt64, tiA, tlA]); omega) | (split <;> omega))
                    refine ⟨hi410, ?_⟩
                    have hz411 := vlt hi410
                    intro it412 em413
                    have hI414 : I9 lg0 it412 := by rw [em413]; exact i9_u hI405 (ok9_b (a := 0) (b := 9) rfl (by first | decide | ((try simp only [Int32.lt_iff_toInt_lt, Int32.le_iff_toInt_le, ← Int32.toInt_inj, Int32.toInt_toInt64, tiA, tlA]); omega) | (split <;> (try simp only [Int32.lt_iff_toInt_lt, Int32.le_iff_toInt_le, ← Int32.toInt_inj, Int32.toInt_toInt64, tiA, tlA]) <;> omega))) (by decide) (fun q => absurd q (by decide))
                    have hK415 : Kd (fun j => j = 497 ∨ j = 498) (fun k => k = 10) lg0 it0 lg0 it412 := by rw [em413]; exact kd_ur (by decide) (by first | decide | (dsimp only; decide) | omega | (dsimp only; omega)) hK406
                    have e416 : (it412 489 0).toInt = (it403 489 0).toInt := by rw [em413]; exact congrArg Int32.toInt (congrFun (u2_row (by decide)) 0)
                    have e417 : (it412 489 10).toInt = (it403 489 10).toInt := by rw [em413]; exact congrArg Int32.toInt (congrFun (u2_row (by decide)) 10)
                    have f418 : 0 ≤ (it412 489 10).toInt ∧ (it412 489 10).toInt ≤ 8 := i9_f hI414 (j := 489) (k := 10) rfl
                    try have f419 : (((it412 489 10) + 1) : Int32).toInt = ((it412 489 10)).toInt + 1 := ad32 (a := ((it412 489 10)).toInt) (b := 1) (rfl) (ti_1) (by omega) (by omega)
                    intro it420 em421
                    have hI422 : I9 lg0 it420 := by rw [em421]; exact i9_u hI414 (ok9_b (a := 0) (b := 8) rfl (by first | decide | ((try simp only [Int32.lt_iff_toInt_lt, Int32.le_iff_toInt_le, ← Int32.toInt_inj, Int32.toInt_toInt64, tiA, tlA]); omega) | (split <;> (try simp only [Int32.lt_iff_toInt_lt, Int32.le_iff_toInt_le, ← Int32.toInt_inj, Int32.toInt_toInt64, tiA, tlA]) <;> omega))) (by decide) (fun _ => by decide)
                    have hK423 : Kd (fun j => j = 497 ∨ j = 498) (fun k => k = 10) lg0 it0 lg0 it420 := by rw [em421]; exact kd_uf (by first | decide | (dsimp only; decide) | omega | (dsimp only; omega)) hK415
                    have e424 : (it420 489 0).toInt = (it412 489 0).toInt := by rw [em421]; exact congrArg Int32.toInt (u2_ne (by decide))
                    have e426 : (it420 489 10).toInt = (((it412 489 10) + 1) : Int32).toInt := by rw [em421]; exact congrArg Int32.toInt u2_eq
                    have f427 : 0 ≤ (it420 489 10).toInt ∧ (it420 489 10).toInt ≤ 8 := i9_f hI422 (j := 489) (k := 10) rfl
                    subst hp
                    exact ⟨hI422, hK423⟩
                  · try simp only [Int32.lt_iff_toInt_lt, Int32.le_iff_toInt_le, ← Int32.toInt_inj, Int32.toInt_toInt64, tiA, tlA] at c96
                    subst hp
                    exact ⟨hI, hKr⟩
                · try simp only [Int32.lt_iff_toInt_lt, Int32.le_iff_toInt_le, ← Int32.toInt_inj, Int32.toInt_toInt64, tiA, tlA] at c78
                  refine ⟨fun c84 => ?_, fun c84 => ?_⟩
                  · try simp only [Int32.lt_iff_toInt_lt, Int32.le_iff_toInt_le, ← Int32.toInt_inj, Int32.toInt_toInt64, tiA, tlA] at c84
                    unfold w_X9_event_b90
                    have f428 : 0 ≤ (it0 489 10).toInt ∧ (it0 489 10).toInt ≤ 8 := i9_f hI (j := 489) (k := 10) rfl
                    refine ⟨fun c96 => ?_, fun c96 => ?_⟩
                    · try simp only [Int32.lt_iff_toInt_lt, Int32.le_iff_toInt_le, ← Int32.toInt_inj, Int32.toInt_toInt64, tiA, tlA] at c96
                      have hi429 : vp_in (it0 489 10) 8 := vp_of (by first | omega | ((try simp only [Int32.lt_iff_toInt_lt, Int32.le_iff_toInt_le, ← Int32.toInt_inj, Int32.toInt_toInt64, tiA, tlA]); omega) | (split <;> omega)) (by first | omega | ((try simp only [Int32.lt_iff_toInt_lt, Int32.le_iff_toInt_le, ← Int32.toInt_inj, Int32.toInt_toInt64, tiA, tlA]); omega) | (split <;> omega))
                      refine ⟨hi429, ?_⟩
                      have hz430 := vlt hi429
                      intro it431 em432
                      have hI433 : I9 lg0 it431 := by rw [em432]; exact i9_u hI (ok9_n rfl) (by decide) (fun q => absurd q (by decide))
                      have hK434 : Kd (fun j => j = 497 ∨ j = 498) (fun k => k = 10) lg0 it0 lg0 it431 := by rw [em432]; exact kd_ur (by decide) (by first | decide | (dsimp only; decide) | omega | (dsimp only; omega)) hKr
                      have e435 : (it431 489 0).toInt = (it0 489 0).toInt := by rw [em432]; exact congrArg Int32.toInt (congrFun (u2_row (by decide)) 0)
                      have e436 : (it431 489 10).toInt = (it0 489 10).toInt := by rw [em432]; exact congrArg Int32.toInt (congrFun (u2_row (by decide)) 10)
                      have f437 : 0 ≤ (it431 489 10).toInt ∧ (it431 489 10).toInt ≤ 8 := i9_f hI433 (j := 489) (k := 10) rfl
                      have hi438 : vp_in (it431 489 10) 8 := vp_of (by first | omega | ((try simp only [Int32.lt_iff_toInt_lt, Int32.le_iff_toInt_le, ← Int32.toInt_inj, Int32.toInt_toInt64, tiA, tlA]); omega) | (split <;> omega)) (by first | omega | ((try simp only [Int32.lt_iff_toInt_lt, Int32.le_iff_toInt_le, ← Int32.toInt_inj, Int32.toInt_toInt64, tiA, tlA]); omega) | (split <;> omega))
                      refine ⟨hi438, ?_⟩
                      have hz439 := vlt hi438
                      intro it440 em441
                      have hI442 : I9 lg0 it440 := by rw [em441]; exact i9_u hI433 (ok9_b (a := 0) (b := 9) rfl (by first | decide | ((try simp only [Int32.lt_iff_toInt_lt, Int32.le_iff_toInt_le, ← Int32.toInt_inj, Int32.toInt_toInt64, tiA, tlA]); omega) | (split <;> (try simp only [Int32.lt_iff_toInt_lt, Int32.le_iff_toInt_le, ← Int32.toInt_inj, Int32.toInt_toInt64, tiA, tlA]) <;> omega))) (by decide) (fun q => absurd q (by decide))
                      have hK443 : Kd (fun j => j = 497 ∨ j = 498) (fun k => k = 10) lg0 it0 lg0 it440 := by rw [em441]; exact kd_ur (by decide) (by first | decide | (dsimp only; decide) | omega | (dsimp only; omega)) hK434
                      have e444 : (it440 489 0).toInt = (it431 489 0).toInt := by rw [em441]; exact congrArg Int32.toInt (congrFun (u2_row (by decide)) 0)
                      have e445 : (it440 489 10).toInt = (it431 489 10).toInt := by rw [em441]; exact congrArg Int32.toInt (congrFun (u2_row (by decide)) 10)
                      have f446 : 0 ≤ (it440 489 10).toInt ∧ (it440 489 10).toInt ≤ 8 := i9_f hI442 (j := 489) (k := 10) rfl
                      try have f447 : (((it440 489 10) + 1) : Int32).toInt = ((it440 489 10)).toInt + 1 := ad32 (a := ((it440 489 10)).toInt) (b := 1) (rfl) (ti_1) (by omega) (by omega)
                      intro it448 em449
                      have hI450 : I9 lg0 it448 := by rw [em449]; exact i9_u hI442 (ok9_b (a := 0) (b := 8) rfl (by first | decide | ((try simp only [Int32.lt_iff_toInt_lt, Int32.le_iff_toInt_le, ← Int32.toInt_inj, Int32.toInt_toInt64, tiA, tlA]); omega) | (split <;> (try simp only [Int32.lt_iff_toInt_lt, Int32.le_iff_toInt_le, ← Int32.toInt_inj, Int32.toInt_toInt64, tiA, tlA]) <;> omega))) (by decide) (fun _ => by decide)
                      have hK451 : Kd (fun j => j = 497 ∨ j = 498) (fun k => k = 10) lg0 it0 lg0 it448 := by rw [em449]; exact kd_uf (by first | decide | (dsimp only; decide) | omega | (dsimp only; omega)) hK443
                      have e452 : (it448 489 0).toInt = (it440 489 0).toInt := by rw [em449]; exact congrArg Int32.toInt (u2_ne (by decide))
                      have e454 : (it448 489 10).toInt = (((it440 489 10) + 1) : Int32).toInt := by rw [em449]; exact congrArg Int32.toInt u2_eq
                      have f455 : 0 ≤ (it448 489 10).toInt ∧ (it448 489 10).toInt ≤ 8 := i9_f hI450 (j := 489) (k := 10) rfl
                      subst hp
                      exact ⟨hI450, hK451⟩
                    · try simp only [Int32.lt_iff_toInt_lt, Int32.le_iff_toInt_le, ← Int32.toInt_inj, Int32.toInt_toInt64, tiA, tlA] at c96
                      subst hp
                      exact ⟨hI, hKr⟩
                  · try simp only [Int32.lt_iff_toInt_lt, Int32.le_iff_toInt_le, ← Int32.toInt_inj, Int32.toInt_toInt64, tiA, tlA] at c84
                    subst hp
                    exact ⟨hI, hKr⟩
            · try simp only [Int32.lt_iff_toInt_lt, Int32.le_iff_toInt_le, ← Int32.toInt_inj, Int32.toInt_toInt64, tiA, tlA] at c49
              refine ⟨fun c61 => ?_, fun c61 => ?_⟩
              · try simp only [Int32.lt_iff_toInt_lt, Int32.le_iff_toInt_le, ← Int32.toInt_inj, Int32.toInt_toInt64, tiA, tlA] at c61
                subst hp
                exact ⟨hI, hKr⟩
              · try simp only [Int32.lt_iff_toInt_lt, Int32.le_iff_toInt_le, ← Int32.toInt_inj, Int32.toInt_toInt64, tiA, tlA] at c61
                unfold w_X9_event_b64
                refine ⟨fun c66 => ?_, fun c66 => ?_⟩
                · try simp only [Int32.lt_iff_toInt_lt, Int32.le_iff_toInt_le, ← Int32.toInt_inj, Int32.toInt_toInt64, tiA, tlA] at c66
                  unfold w_X9_event_b90
                  have f456 : 0 ≤ (it0 489 10).toInt ∧ (it0 489 10).toInt ≤ 8 := i9_f hI (j := 489) (k := 10) rfl
                  refine ⟨fun c96 => ?_, fun c96 => ?_⟩
                  · try simp only [Int32.lt_iff_toInt_lt, Int32.le_iff_toInt_le, ← Int32.toInt_inj, Int32.toInt_toInt64, tiA, tlA] at c96
                    have hi457 : vp_in (it0 489 10) 8 := vp_of (by first | omega | ((try simp only [Int32.lt_iff_toInt_lt, Int32.le_iff_toInt_le, ← Int32.toInt_inj, Int32.toInt_toInt64, tiA, tlA]); omega) | (split <;> omega)) (by first | omega | ((try simp only [Int32.lt_iff_toInt_lt, Int32.le_iff_toInt_le, ← Int32.toInt_inj, Int32.toInt_toInt64, tiA, tlA]); omega) | (split <;> omega))
                    refine ⟨hi457, ?_⟩
                    have hz458 := vlt hi457
                    intro it459 em460
                    have hI461 : I9 lg0 it459 := by rw [em460]; exact i9_u hI (ok9_n rfl) (by decide) (fun q => absurd q (by decide))
                    have hK462 : Kd (fun j => j = 497 ∨ j = 498) (fun k => k = 10) lg0 it0 lg0 it459 := by rw [em460]; exact kd_ur (by decide) (by first | decide | (dsimp only; decide) | omega | (dsimp only; omega)) hKr
                    have e463 : (it459 489 0).toInt = (it0 489 0).toInt := by rw [em460]; exact congrArg Int32.toInt (congrFun (u2_row (by decide)) 0)
                    have e464 : (it459 489 10).toInt = (it0 489 10).toInt := by rw [em460]; exact congrArg Int32.toInt (congrFun (u2_row (by decide)) 10)
                    have f465 : 0 ≤ (it459 489 10).toInt ∧ (it459 489 10).toInt ≤ 8 := i9_f hI461 (j := 489) (k := 10) rfl
                    have hi466 : vp_in (it459 489 10) 8 := vp_of (by first | omega | ((try simp only [Int32.lt_iff_toInt_lt, Int32.le_iff_toInt_le, ← Int32.toInt_inj, Int32.toInt_toInt64, tiA, tlA]); omega) | (split <;> omega)) (by first | omega | ((try simp only [Int32.lt_iff_toInt_lt, Int32.le_iff_toInt_le, ← Int32.toInt_inj, Int32.toInt_toInt64, tiA, tlA]); omega) | (split <;> omega))
                    refine ⟨hi466, ?_⟩
                    have hz467 := vlt hi466
                    intro it468 em469
                    have hI470 : I9 lg0 it468 := by rw [em469]; exact i9_u hI461 (ok9_b (a := 0) (b := 9) rfl (by first | decide | ((try simp only [Int32.lt_iff_toInt_lt, Int32.le_iff_toInt_le, ← Int32.toInt_inj, Int32.toInt_toInt64, tiA, tlA]); omega) | (split <;> (try simp only [Int32.lt_iff_toInt_lt, Int32.le_iff_toInt_le, ← Int32.toInt_inj, Int32.toInt_toInt64, tiA, tlA]) <;> omega))) (by decide) (fun q => absurd q (by decide))
                    have hK471 : Kd (fun j => j = 497 ∨ j = 498) (fun k => k = 10) lg0 it0 lg0 it468 := by rw [em469]; exact kd_ur (by decide) (by first | decide | (dsimp only; decide) | omega | (dsimp only; omega)) hK462
                    have e472 : (it468 489 0).toInt = (it459 489 0).toInt := by rw [em469]; exact congrArg Int32.toInt (congrFun (u2_row (by decide)) 0)
                    have e473 : (it468 489 10).toInt = (it459 489 10).toInt := by rw [em469]; exact congrArg Int32.toInt (congrFun (u2_row (by decide)) 10)
                    have f474 : 0 ≤ (it468 489 10).toInt ∧ (it468 489 10).toInt ≤ 8 := i9_f hI470 (j := 489) (k := 10) rfl
                    try have f475 : (((it468 489 10) + 1) : Int32).toInt = ((it468 489 10)).toInt + 1 := ad32 (a := ((it468 489 10)).toInt) (b := 1) (rfl) (ti_1) (by omega) (by omega)
                    intro it476 em477
                    have hI478 : I9 lg0 it476 := by rw [em477]; exact i9_u hI470 (ok9_b (a := 0) (b := 8) rfl (by first | decide | ((try simp only [Int32.lt_iff_toInt_lt, Int32.le_iff_toInt_le, ← Int32.toInt_inj, Int32.toInt_toInt64, tiA, tlA]); omega) | (split <;> (try simp only [Int32.lt_iff_toInt_lt, Int32.le_iff_toInt_le, ← Int32.toInt_inj, Int32.toInt_toInt64, tiA, tlA]) <;> omega))) (by decide) (fun _ => by decide)
                    have hK479 : Kd (fun j => j = 497 ∨ j = 498) (fun k => k = 10) lg0 it0 lg0 it476 := by rw [em477]; exact kd_uf (by first | decide | (dsimp only; decide) | omega | (dsimp only; omega)) hK471
                    have e480 : (it476 489 0).toInt = (it468 489 0).toInt := by rw [em477]; exact congrArg Int32.toInt (u2_ne (by decide))
                    have e482 : (it476 489 10).toInt = (((it468 489 10) + 1) : Int32).toInt := by rw [em477]; exact congrArg Int32.toInt u2_eq
                    have f483 : 0 ≤ (it476 489 10).toInt ∧ (it476 489 10).toInt ≤ 8 := i9_f hI478 (j := 489) (k := 10) rfl
                    subst hp
                    exact ⟨hI478, hK479⟩
                  · try simp only [Int32.lt_iff_toInt_lt, Int32.le_iff_toInt_le, ← Int32.toInt_inj, Int32.toInt_toInt64, tiA, tlA] at c96
                    subst hp
                    exact ⟨hI, hKr⟩
                · try simp only [Int32.lt_iff_toInt_lt, Int32.le_iff_toInt_le, ← Int32.toInt_inj, Int32.toInt_toInt64, tiA, tlA] at c66
                  refine ⟨fun c78 => ?_, fun c78 => ?_⟩
                  · try simp only [Int32.lt_iff_toInt_lt, Int32.le_iff_toInt_le, ← Int32.toInt_inj, Int32.toInt_toInt64, tiA, tlA] at c78
                    unfold w_X9_event_b90
                    have f484 : 0 ≤ (it0 489 10).toInt ∧ (it0 489 10).toInt ≤ 8 := i9_f hI (j := 489) (k := 10) rfl
                    refine ⟨fun c96 => ?_, fun c96 => ?_⟩
                    · try simp only [Int32.lt_iff_toInt_lt, Int32.le_iff_toInt_le, ← Int32.toInt_inj, Int32.toInt_toInt64, tiA, tlA] at c96
                      have hi485 : vp_in (it0 489 10) 8 := vp_of (by first | omega | ((try simp only [Int32.lt_iff_toInt_lt, Int32.le_iff_toInt_le, ← Int32.toInt_inj, Int32.toInt_toInt64, tiA, tlA]); omega) | (split <;> omega)) (by first | omega | ((try simp only [Int32.lt_iff_toInt_lt, Int32.le_iff_toInt_le, ← Int32.toInt_inj, Int32.toInt_toInt64, tiA, tlA]); omega) | (split <;> omega))
                      refine ⟨hi485, ?_⟩
                      have hz486 := vlt hi485
                      intro it487 em488
                      have hI489 : I9 lg0 it487 := by rw [em488]; exact i9_u hI (ok9_n rfl) (by decide) (fun q => absurd q (by decide))
                      have hK490 : Kd (fun j => j = 497 ∨ j = 498) (fun k => k = 10) lg0 it0 lg0 it487 := by rw [em488]; exact kd_ur (by decide) (by first | decide | (dsimp only; decide) | omega | (dsimp only; omega)) hKr
                      have e491 : (it487 489 0).toInt = (it0 489 0).toInt := by rw [em488]; exact congrArg Int32.toInt (congrFun (u2_row (by decide)) 0)
                      have e492 : (it487 489 10).toInt = (it0 489 10).toInt := by rw [em488]; exact congrArg Int32.toInt (congrFun (u2_row (by decide)) 10)
                      have f493 : 0 ≤ (it487 489 10).toInt ∧ (it487 489 10).toInt ≤ 8 := i9_f hI489 (j := 489) (k := 10) rfl
                      have hi494 : vp_in (it487 489 10) 8 := vp_of (by first | omega | ((try simp only [Int32.lt_iff_toInt_lt, Int32.le_iff_toInt_le, ← Int32.toInt_inj, Int32.toInt_toInt64, tiA, tlA]); omega) | (split <;> omega)) (by first | omega | ((try simp only [Int32.lt_iff_toInt_lt, Int32.le_iff_toInt_le, ← Int32.toInt_inj, Int32.toInt_toInt64, tiA, tlA]); omega) | (split <;> omega))
                      refine ⟨hi494, ?_⟩
                      have hz495 := vlt hi494
                      intro it496 em497
                      have hI498 : I9 lg0 it496 := by rw [em497]; exact i9_u hI489 (ok9_b (a := 0) (b := 9) rfl (by first | decide | ((try simp only [Int32.lt_iff_toInt_lt, Int32.le_iff_toInt_le, ← Int32.toInt_inj, Int32.toInt_toInt64, tiA, tlA]); omega) | (split <;> (try simp only [Int32.lt_iff_toInt_lt, Int32.le_iff_toInt_le, ← Int32.toInt_inj, Int32.toInt_toInt64, tiA, tlA]) <;> omega))) (by decide) (fun q => absurd q (by decide))
                      have hK499 : Kd (fun j => j = 497 ∨ j = 498) (fun k => k = 10) lg0 it0 lg0 it496 := by rw [em497]; exact kd_ur (by decide) (by first | decide | (dsimp only; decide) | omega | (dsimp only; omega)) hK490
                      have e500 : (it496 489 0).toInt = (it487 489 0).toInt := by rw [em497]; exact congrArg Int32.toInt (congrFun (u2_row (by decide)) 0)
                      have e501 : (it496 489 10).toInt = (it487 489 10).toInt := by rw [em497]; exact congrArg Int32.toInt (congrFun (u2_row (by decide)) 10)
                      have f502 : 0 ≤ (it496 489 10).toInt ∧ (it496 489 10).toInt ≤ 8 := i9_f hI498 (j := 489) (k := 10) rfl
                      try have f503 : (((it496 489 10) + 1) : Int32).toInt = ((it496 489 10)).toInt + 1 := ad32 (a := ((it496 489 10)).toInt) (b := 1) (rfl) (ti_1) (by omega) (by omega)
                      intro it504 em505
                      have hI506 : I9 lg0 it504 := by rw [em505]; exact i9_u hI498 (ok9_b (a := 0) (b := 8) rfl (by first | decide | ((try simp only [Int32.lt_iff_toInt_lt, Int32.le_iff_toInt_le, ← Int32.toInt_inj, Int32.toInt_toInt64, tiA, tlA]); omega) | (split <;> (try simp only [Int32.lt_iff_toInt_lt, Int32.le_iff_toInt_le, ← Int32.toInt_inj, Int32.toInt_toInt64, tiA, tlA]) <;> omega))) (by decide) (fun _ => by decide)
                      have hK507 : Kd (fun j => j = 497 ∨ j = 498) (fun k => k = 10) lg0 it0 lg0 it504 := by rw [em505]; exact kd_uf (by first | decide | (dsimp only; decide) | omega | (dsimp only; omega)) hK499
                      have e508 : (it504 489 0).toInt = (it496 489 0).toInt := by rw [em505]; exact congrArg Int32.toInt (u2_ne (by decide))
                      have e510 : (it504 489 10).toInt = (((it496 489 10) + 1) : Int32).toInt := by rw [em505]; exact congrArg Int32.toInt u2_eq
                      have f511 : 0 ≤ (it504 489 10).toInt ∧ (it504 489 10).toInt ≤ 8 := i9_f hI506 (j := 489) (k := 10) rfl
                      subst hp
                      exact ⟨hI506, hK507⟩
                    · try simp only [Int32.lt_iff_toInt_lt, Int32.le_iff_toInt_le, ← Int32.toInt_inj, Int32.toInt_toInt64, tiA, tlA] at c96
                      subst hp
                      exact ⟨hI, hKr⟩
                  · try simp only [Int32.lt_iff_toInt_lt, Int32.le_iff_toInt_le, ← Int32.toInt_inj, Int32.toInt_toInt64, tiA, tlA] at c78
                    refine ⟨fun c84 => ?_, fun c84 => ?_⟩
                    · try simp only [Int32.lt_iff_toInt_lt, Int32.le_iff_toInt_le, ← Int32.toInt_inj, Int32.toInt_toInt64, tiA, tlA] at c84
                      unfold w_X9_event_b90
                      have f512 : 0 ≤ (it0 489 10).toInt ∧ (it0 489 10).toInt ≤ 8 := i9_f hI (j := 489) (k := 10) rfl
                      refine ⟨fun c96 => ?_, fun c96 => ?_⟩
                      · try simp only [Int32.lt_iff_toInt_lt, Int32.le_iff_toInt_le, ← Int32.toInt_inj, Int32.toInt_toInt64, tiA, tlA] at c96
                        have hi513 : vp_in (it0 489 10) 8 := vp_of (by first | omega | ((try simp only [Int32.lt_iff_toInt_lt, Int32.le_iff_toInt_le, ← Int32.toInt_inj, Int32.toInt_toInt64, tiA, tlA]); omega) | (split <;> omega)) (by first | omega | ((try simp only [Int32.lt_iff_toInt_lt, Int32.le_iff_toInt_le, ← Int32.toInt_inj, Int32.toInt_toInt64, tiA, tlA]); omega) | (split <;> omega))
                        refine ⟨hi513, ?_⟩
                        have hz514 := vlt hi513
                        intro it515 em516
                        have hI517 : I9 lg0 it515 := by rw [em516]; exact i9_u hI (ok9_n rfl) (by decide) (fun q => absurd q (by decide))
                        have hK518 : Kd (fun j => j = 497 ∨ j = 498) (fun k => k = 10) lg0 it0 lg0 it515 := by rw [em516]; exact kd_ur (by decide) (by first | decide | (dsimp only; decide) | omega | (dsimp only; omega)) hKr
                        have e519 : (it515 489 0).toInt = (it0 489 0).toInt := by rw [em516]; exact congrArg Int32.toInt (congrFun (u2_row (by decide)) 0)
                        have e520 : (it515 489 10).toInt = (it0 489 10).toInt := by rw [em516]; exact congrArg Int32.toInt (congrFun (u2_row (by decide)) 10)
                        have f521 : 0 ≤ (it515 489 10).toInt ∧ (it515 489 10).toInt ≤ 8 := i9_f hI517 (j := 489) (k := 10) rfl
                        have hi522 : vp_in (it515 489 10) 8 := vp_of (by first | omega | ((try simp only [Int32.lt_iff_toInt_lt, Int32.le_iff_toInt_le, ← Int32.toInt_inj, Int32.toInt_toInt64, tiA, tlA]); omega) | (split <;> omega)) (by first | omega | ((try simp only [Int32.lt_iff_toInt_lt, Int32.le_iff_toInt_le, ← Int32.toInt_inj, Int32.toInt_toInt64, tiA, tlA]); omega) | (split <;> omega))
                        refine ⟨hi522, ?_⟩
                        have hz523 := vlt hi522
                        intro it524 em525
                        have hI526 : I9 lg0 it524 := by rw [em525]; exact i9_u hI517 (ok9_b (a := 0) (b := 9) rfl (by first | decide | ((try simp only [Int32.lt_iff_toInt_lt, Int32.le_iff_toInt_le, ← Int32.toInt_inj, Int32.toInt_toInt64, tiA, tlA]); omega) | (split <;> (try simp only [Int32.lt_iff_toInt_lt, Int32.le_iff_toInt_le, ← Int32.toInt_inj, Int32.toInt_toInt64, tiA, tlA]) <;> omega))) (by decide) (fun q => absurd q (by decide))
                        have hK527 : Kd (fun j => j = 497 ∨ j = 498) (fun k => k = 10) lg0 it0 lg0 it524 := by rw [em525]; exact kd_ur (by decide) (by first | decide | (dsimp only; decide) | omega | (dsimp only; omega)) hK518
                        have e528 : (it524 489 0).toInt = (it515 489 0).toInt := by rw [em525]; exact congrArg Int32.toInt (congrFun (u2_row (by decide)) 0)
                        have e529 : (it524 489 10).toInt = (it515 489 10).toInt := by rw [em525]; exact congrArg Int32.toInt (congrFun (u2_row (by decide)) 10)
                        have f530 : 0 ≤ (it524 489 10).toInt ∧ (it524 489 10).toInt ≤ 8 := i9_f hI526 (j := 489) (k := 10) rfl
                        try have f531 : (((it524 489 10) + 1) : Int32).toInt = ((it524 489 10)).toInt + 1 := ad32 (a := ((it524 489 10)).toInt) (b := 1) (rfl) (ti_1) (by omega) (by omega)
                        intro it532 em533
                        have hI534 : I9 lg0 it532 := by rw [em533]; exact i9_u hI526 (ok9_b (a := 0) (b := 8) rfl (by first | decide | ((try simp only [Int32.lt_iff_toInt_lt, Int32.le_iff_toInt_le, ← Int32.toInt_inj, Int32.toInt_toInt64, tiA, tlA]); omega) | (split <;> (try simp only [Int32.lt_iff_toInt_lt, Int32.le_iff_toInt_le, ← Int32.toInt_inj, Int32.toInt_toInt64, tiA, tlA]) <;> omega))) (by decide) (fun _ => by decide)
                        have hK535 : Kd (fun j => j = 497 ∨ j = 498) (fun k => k = 10) lg0 it0 lg0 it532 := by rw [em533]; exact kd_uf (by first | decide | (dsimp only; decide) | omega | (dsimp only; omega)) hK527
                        have e536 : (it532 489 0).toInt = (it524 489 0).toInt := by rw [em533]; exact congrArg Int32.toInt (u2_ne (by decide))
                        have e538 : (it532 489 10).toInt = (((it524 489 10) + 1) : Int32).toInt := by rw [em533]; exact congrArg Int32.toInt u2_eq
                        have f539 : 0 ≤ (it532 489 10).toInt ∧ (it532 489 10).toInt ≤ 8 := i9_f hI534 (j := 489) (k := 10) rfl
                        subst hp
                        exact ⟨hI534, hK535⟩
                      · try simp only [Int32.lt_iff_toInt_lt, Int32.le_iff_toInt_le, ← Int32.toInt_inj, Int32.toInt_toInt64, tiA, tlA] at c96
                        subst hp
                        exact ⟨hI, hKr⟩
                    · try simp only [Int32.lt_iff_toInt_lt, Int32.le_iff_toInt_le, ← Int32.toInt_inj, Int32.toInt_toInt64, tiA, tlA] at c84
                      subst hp
                      exact ⟨hI, hKr⟩
          · try simp only [Int32.lt_iff_toInt_lt, Int32.le_iff_toInt_le, ← Int32.toInt_inj, Int32.toInt_toInt64, tiA, tlA] at c40
            refine ⟨fun c44 => ?_, fun c44 => ?_⟩
            · try simp only [Int32.lt_iff_toInt_lt, Int32.le_iff_toInt_le, ← Int32.toInt_inj, Int32.toInt_toInt64, tiA, tlA] at c44
              subst hp
              exact ⟨hI, hKr⟩
            · try simp only [Int32.lt_iff_toInt_lt, Int32.le_iff_toInt_le, ← Int32.toInt_inj, Int32.toInt_toInt64, tiA, tlA] at c44
              unfold w_X9_event_b47
              refine ⟨fun c49 => ?_, fun c49 => ?_⟩
              · try simp only [Int32.lt_iff_toInt_lt, Int32.le_iff_toInt_le, ← Int32.toInt_inj, Int32.toInt_toInt64, tiA, tlA] at c49
                unfold w_X9_event_b64
                refine ⟨fun c66 => ?_, fun c66 => ?_⟩
                · try simp only [Int32.lt_iff_toInt_lt, Int32.le_iff_toInt_le, ← Int32.toInt_inj, Int32.toInt_toInt64, tiA, tlA] at c66
                  unfold w_X9_event_b90
                  have f540 : 0 ≤ (it0 489 10).toInt ∧ (it0 489 10).toInt ≤ 8 := i9_f hI (j := 489) (k := 10) rfl
                  refine ⟨fun c96 => ?_, fun c96 => ?_⟩
                  · try simp only [Int32.lt_iff_toInt_lt, Int32.le_iff_toInt_le, ← Int32.toInt_inj, Int32.toInt_toInt64, tiA, tlA] at c96
                    have hi541 : vp_in (it0 489 10) 8 := vp_of (by first | omega | ((try simp only [Int32.lt_iff_toInt_lt, Int32.le_iff_toInt_le, ← Int32.toInt_inj, Int32.toInt_toInt64, tiA, tlA]); omega) | (split <;> omega)) (by first | omega | ((try simp only [Int32.lt_iff_toInt_lt, Int32.le_iff_toInt_le, ← Int32.toInt_inj, Int32.toInt_toInt64, tiA, tlA]); omega) | (split <;> omega))
                    refine ⟨hi541, ?_⟩
                    have hz542 := vlt hi541
                    intro it543 em544
                    have hI545 : I9 lg0 it543 := by rw [em544]; exact i9_u hI (ok9_n rfl) (by decide) (fun q => absurd q (by decide))
                    have hK546 : Kd (fun j => j = 497 ∨ j = 498) (fun k => k = 10) lg0 it0 lg0 it543 := by rw [em544]; exact kd_ur (by decide) (by first | decide | (dsimp only; decide) | omega | (dsimp only; omega)) hKr
                    have e547 : (it543 489 0).toInt = (it0 489 0).toInt := by rw [em544]; exact congrArg Int32.toInt (congrFun (u2_row (by decide)) 0)
                    have e548 : (it543 489 10).toInt = (it0 489 10).toInt := by rw [em544]; exact congrArg Int32.toInt (congrFun (u2_row (by decide)) 10)
                    have f549 : 0 ≤ (it543 489 10).toInt ∧ (it543 489 10).toInt ≤ 8 := i9_f hI545 (j := 489) (k := 10) rfl
                    have hi550 : vp_in (it543 489 10) 8 := vp_of (by first | omega | ((try simp only [Int32.lt_iff_toInt_lt, Int32.le_iff_toInt_le, ← Int32.toInt_inj, Int32.toInt_toInt64, tiA, tlA]); omega) | (split <;> omega)) (by first | omega | ((try simp only [Int32.lt_iff_toInt_lt, Int32.le_iff_toInt_le, ← Int32.toInt_inj, Int32.toInt_toInt64, tiA, tlA]); omega) | (split <;> omega))
                    refine ⟨hi550, ?_⟩
                    have hz551 := vlt hi550
                    intro it552 em553
                    have hI554 : I9 lg0 it552 := by rw [em553]; exact i9_u hI545 (ok9_b (a := 0) (b := 9) rfl (by first | decide | ((try simp only [Int32.lt_iff_toInt_lt, Int32.le_iff_toInt_le, ← Int32.toInt_inj, Int32.toInt_toInt64, tiA, tlA]); omega) | (split <;> (try simp only [Int32.lt_iff_toInt_lt, Int32.le_iff_toInt_le, ← Int32.toInt_inj, Int32.toInt_toInt64, tiA, tlA]) <;> omega))) (by decide) (fun q => absurd q (by decide))
                    have hK555 : Kd (fun j => j = 497 ∨ j = 498) (fun k => k = 10) lg0 it0 lg0 it552 := by rw [em553]; exact kd_ur (by decide) (by first | decide | (dsimp only; decide) | omega | (dsimp only; omega)) hK546
                    have e556 : (it552 489 0).toInt = (it543 489 0).toInt := by rw [em553]; exact congrArg Int32.toInt (congrFun (u2_row (by decide)) 0)
                    have e557 : (it552 489 10).toInt = (it543 489 10).toInt := by rw [em553]; exact congrArg Int32.toInt (congrFun (u2_row (by decide)) 10)
                    have f558 : 0 ≤ (it552 489 10).toInt ∧ (it552 489 10).toInt ≤ 8 := i9_f hI554 (j := 489) (k := 10) rfl
                    try have f559 : (((it552 489 10) + 1) : Int32).toInt = ((it552 489 10)).toInt + 1 := ad32 (a := ((it552 489 10)).toInt) (b := 1) (rfl) (ti_1) (by omega) (by omega)
                    intro it560 em561
                    have hI562 : I9 lg0 it560 := by rw [em561]; exact i9_u hI554 (ok9_b (a := 0) (b := 8) rfl (by first | decide | ((try simp only [Int32.lt_iff_toInt_lt, Int32.le_iff_toInt_le, ← Int32.toInt_inj, Int32.toInt_toInt64, tiA, tlA]); omega) | (split <;> (try simp only [Int32.lt_iff_toInt_lt, Int32.le_iff_toInt_le, ← Int32.toInt_inj, Int32.toInt_toInt64, tiA, tlA]) <;> omega))) (by decide) (fun _ => by decide)
                    have hK563 : Kd (fun j => j = 497 ∨ j = 498) (fun k => k = 10) lg0 it0 lg0 it560 := by rw [em561]; exact kd_uf (by first | decide | (dsimp only; decide) | omega | (dsimp only; omega)) hK555
                    have e564 : (it560 489 0).toInt = (it552 489 0).toInt := by rw [em561]; exact congrArg Int32.toInt (u2_ne (by decide))
                    have e566 : (it560 489 10).toInt = (((it552 489 10) + 1) : Int32).toInt := by rw [em561]; exact congrArg Int32.toInt u2_eq
                    have f567 : 0 ≤ (it560 489 10).toInt ∧ (it560 489 10).toInt ≤ 8 := i9_f hI562 (j := 489) (k := 10) rfl
                    subst hp
                    exact ⟨hI562, hK563⟩
                  · try simp only [Int32.lt_iff_toInt_lt, Int32.le_iff_toInt_le, ← Int32.toInt_inj, Int32.toInt_toInt64, tiA, tlA] at c96
                    subst hp
                    exact ⟨hI, hKr⟩
                · try simp only [Int32.lt_iff_toInt_lt, Int32.le_iff_toInt_le, ← Int32.toInt_inj, Int32.toInt_toInt64, tiA, tlA] at c66
                  refine ⟨fun c78 => ?_, fun c78 => ?_⟩
                  · try simp only [Int32.lt_iff_toInt_lt, Int32.le_iff_toInt_le, ← Int32.toInt_inj, Int32.toInt_toInt64, tiA, tlA] at c78
                    unfold w_X9_event_b90
                    have f568 : 0 ≤ (it0 489 10).toInt ∧ (it0 489 10).toInt ≤ 8 := i9_f hI (j := 489) (k := 10) rfl
                    refine ⟨fun c96 => ?_, fun c96 => ?_⟩
                    · try simp only [Int32.lt_iff_toInt_lt, Int32.le_iff_toInt_le, ← Int32.toInt_inj, Int32.toInt_toInt64, tiA, tlA] at c96
                      have hi569 : vp_in (it0 489 10) 8 := vp_of (by first | omega | ((try simp only [Int32.lt_iff_toInt_lt, Int32.le_iff_toInt_le, ← Int32.toInt_inj, Int32.toInt_toInt64, tiA, tlA]); omega) | (split <;> omega)) (by first | omega | ((try simp only [Int32.lt_iff_toInt_lt, Int32.le_iff_toInt_le, ← Int32.toInt_inj, Int32.toInt_toInt64, tiA, tlA]); omega) | (split <;> omega))
                      refine ⟨hi569, ?_⟩
                      have hz570 := vlt hi569
                      intro it571 em572
                      have hI573 : I9 lg0 it571 := by rw [em572]; exact i9_u hI (ok9_n rfl) (by decide) (fun q => absurd q (by decide))
                      have hK574 : Kd (fun j => j = 497 ∨ j = 498) (fun k => k = 10) lg0 it0 lg0 it571 := by rw [em572]; exact kd_ur (by decide) (by first | decide | (dsimp only; decide) | omega | (dsimp only; omega)) hKr
                      have e575 : (it571 489 0).toInt = (it0 489 0).toInt := by rw [em572]; exact congrArg Int32.toInt (congrFun (u2_row (by decide)) 0)
                      have e576 : (it571 489 10).toInt = (it0 489 10).toInt := by rw [em572]; exact congrArg Int32.toInt (congrFun (u2_row (by decide)) 10)
                      have f577 : 0 ≤ (it571 489 10).toInt ∧ (it571 489 10).toInt ≤ 8 := i9_f hI573 (j := 489) (k := 10) rfl
                      have hi578 : vp_in (it571 489 10) 8 := vp_of (by first | omega | ((try simp only [Int32.lt_iff_toInt_lt, Int32.le_iff_toInt_le, ← Int32.toInt_inj, Int32.toInt_toInt64, tiA, tlA]); omega) | (split <;> omega)) (by first | omega | ((try simp only [Int32.lt_iff_toInt_lt, Int32.le_iff_toInt_le, ← Int32.toInt_inj, Int32.toInt_toInt64, tiA, tlA]); omega) | (split <;> omega))
                      refine ⟨hi578, ?_⟩
                      have hz579 := vlt hi578
                      intro it580 em581
                      have hI582 : I9 lg0 it580 := by rw [em581]; exact i9_u hI573 (ok9_b (a := 0) (b := 9) rfl (by first | decide | ((try simp only [Int32.lt_iff_toInt_lt, Int32.le_iff_toInt_le, ← Int32.toInt_inj, Int32.toInt_toInt64, tiA, tlA]); omega) | (split <;> (try simp only [Int32.lt_iff_toInt_lt, Int32.le_iff_toInt_le, ← Int32.toInt_inj, Int32.toInt_toInt64, tiA, tlA]) <;> omega))) (by decide) (fun q => absurd q (by decide))
                      have hK583 : Kd (fun j => j = 497 ∨ j = 498) (fun k => k = 10) lg0 it0 lg0 it580 := by rw [em581]; exact kd_ur (by decide) (by first | decide | (dsimp only; decide) | omega | (dsimp only; omega)) hK574
                      have e584 : (it580 489 0).toInt = (it571 489 0).toInt := by rw [em581]; exact congrArg Int32.toInt (congrFun (u2_row (by decide)) 0)
                      have e585 : (it580 489 10).toInt = (it571 489 10).toInt := by rw [em581]; exact congrArg Int32.toInt (congrFun (u2_row (by decide)) 10)
                      have f586 : 0 ≤ (it580 489 10).toInt ∧ (it580 489 10).toInt ≤ 8 := i9_f hI582 (j := 489) (k := 10) rfl
                      try have f587 : (((it580 489 10) + 1) : Int32).toInt = ((it580 489 10)).toInt + 1 := ad32 (a := ((it580 489 10)).toInt) (b := 1) (rfl) (ti_1) (by omega) (by omega)
                      intro it588 em589
                      have hI590 : I9 lg0 it588 := by rw [em589]; exact i9_u hI582 (ok9_b (a := 0) (b := 8) rfl (by first | decide | ((try simp only [Int32.lt_iff_toInt_lt, Int32.le_iff_toInt_le, ← Int32.toInt_inj, Int32.toInt_toInt64, tiA, tlA]); omega) | (split <;> (try simp only [Int32.lt_iff_toInt_lt, Int32.le_iff_toInt_le, ← Int32.toInt_inj, Int32.toInt_toInt64, tiA, tlA]) <;> omega))) (by decide) (fun _ => by decide)
                      have hK591 : Kd (fun j => j = 497 ∨ j = 498) (fun k => k = 10) lg0 it0 lg0 it588 := by rw [em589]; exact kd_uf (by first | decide | (dsimp only; decide) | omega | (dsimp only; omega)) hK583
                      have e592 : (it588 489 0).toInt = (it580 489 0).toInt := by rw [em589]; exact congrArg Int32.toInt (u2_ne (by decide))
                      have e594 : (it588 489 10).toInt = (((it580 489 10) + 1) : Int32).toInt := by rw [em589]; exact congrArg Int32.toInt u2_eq
                      have f595 : 0 ≤ (it588 489 10).toInt ∧ (it588 489 10).toInt ≤ 8 := i9_f hI590 (j := 489) (k := 10) rfl
                      subst hp
                      exact ⟨hI590, hK591⟩
                    · try simp only [Int32.lt_iff_toInt_lt, Int32.le_iff_toInt_le, ← Int32.toInt_inj, Int32.toInt_toInt64, tiA, tlA] at c96
                      subst hp
                      exact ⟨hI, hKr⟩
                  · try simp only [Int32.lt_iff_toInt_lt, Int32.le_iff_toInt_le, ← Int32.toInt_inj, Int32.toInt_toInt64, tiA, tlA] at c78
                    refine ⟨fun c84 => ?_, fun c84 => ?_⟩
                    · try simp only [Int32.lt_iff_toInt_lt, Int32.le_iff_toInt_le, ← Int32.toInt_inj, Int32.toInt_toInt64, tiA, tlA] at c84
                      unfold w_X9_event_b90
                      have f596 : 0 ≤ (it0 489 10).toInt ∧ (it0 489 10).toInt ≤ 8 := i9_f hI (j := 489) (k := 10) rfl
                      refine ⟨fun c96 => ?_, fun c96 => ?_⟩
                      · try simp only [Int32.lt_iff_toInt_lt, Int32.le_iff_toInt_le, ← Int32.toInt_inj, Int32.toInt_toInt64, tiA, tlA] at c96
                        have hi597 : vp_in (it0 489 10) 8 := vp_of (by first | omega | ((try simp only [Int32.lt_iff_toInt_lt, Int32.le_iff_toInt_le, ← Int32.toInt_inj, Int32.toInt_toInt64, tiA, tlA]); omega) | (split <;> omega)) (by first | omega | ((try simp only [Int32.lt_iff_toInt_lt, Int32.le_iff_toInt_le, ← Int32.toInt_inj, Int32.toInt_toInt64, tiA, tlA]); omega) | (split <;> omega))
                        refine ⟨hi597, ?_⟩
                        have hz598 := vlt hi597
                        intro it599 em600
                        have hI601 : I9 lg0 it599 := by rw [em600]; exact i9_u hI (ok9_n rfl) (by decide) (fun q => absurd q (by decide))
                        have hK602 : Kd (fun j => j = 497 ∨ j = 498) (fun k => k = 10) lg0 it0 lg0 it599 := by rw [em600]; exact kd_ur (by decide) (by first | decide | (dsimp only; decide) | omega | (dsimp only; omega)) hKr
                        have e603 : (it599 489 0).toInt = (it0 489 0).toInt := by rw [em600]; exact congrArg Int32.toInt (congrFun (u2_row (by decide)) 0)
                        have e604 : (it599 489 10).toInt = (it0 489 10).toInt := by rw [em600]; exact congrArg Int32.toInt (congrFun (u2_row (by decide)) 10)
                        have f605 : 0 ≤ (it599 489 10).toInt ∧ (it599 489 10).toInt ≤ 8 := i9_f hI601 (j := 489) (k := 10) rfl
                        have hi606 : vp_in (it599 489 10) 8 := vp_of (by first | omega | ((try simp only [Int32.lt_iff_toInt_lt, Int32.le_iff_toInt_le, ← Int32.toInt_inj, Int32.toInt_toInt64, tiA, tlA]); omega) | (split <;> omega)) (by first | omega | ((try simp only [Int32.lt_iff_toInt_lt, Int32.le_iff_toInt_le, ← Int32.toInt_inj, Int32.toInt_toInt64, tiA, tlA]); omega) | (split <;> omega))
                        refine ⟨hi606, ?_⟩
                        have hz607 := vlt hi606
                        intro it608 em609
                        have hI610 : I9 lg0 it608 := by rw [em609]; exact i9_u hI601 (ok9_b (a := 0) (b := 9) rfl (by first | decide | ((try simp only [Int32.lt_iff_toInt_lt, Int32.le_iff_toInt_le, ← Int32.toInt_inj, Int32.toInt_toInt64, tiA, tlA]); omega) | (split <;> (try simp only [Int32.lt_iff_toInt_lt, Int32.le_iff_toInt_le, ← Int32.toInt_inj, Int32.toInt_toInt64, tiA, tlA]) <;> omega))) (by decide) (fun q => absurd q (by decide))
                        have hK611 : Kd (fun j => j = 497 ∨ j = 498) (fun k => k = 10) lg0 it0 lg0 it608 := by rw [em609]; exact kd_ur (by decide) (by first | decide | (dsimp only; decide) | omega | (dsimp only; omega)) hK602
                        have e612 : (it608 489 0).toInt = (it599 489 0).toInt := by rw [em609]; exact congrArg Int32.toInt (congrFun (u2_row (by decide)) 0)
                        have e613 : (it608 489 10).toInt = (it599 489 10).toInt := by rw [em609]; exact congrArg Int32.toInt (congrFun (u2_row (by decide)) 10)
                        have f614 : 0 ≤ (it608 489 10).toInt ∧ (it608 489 10).toInt ≤ 8 := i9_f hI610 (j := 489) (k := 10) rfl
                        try have f615 : (((it608 489 10) + 1) : Int32).toInt = ((it608 489 10)).toInt + 1 := ad32 (a := ((it608 489 10)).toInt) (b := 1) (rfl) (ti_1) (by omega) (by omega)
                        intro it616 em617
                        have hI618 : I9 lg0 it616 := by rw [em617]; exact i9_u hI610 (ok9_b (a := 0) (b := 8) rfl (by first | decide | ((try simp only [Int32.lt_iff_toInt_lt, Int32.le_iff_toInt_le, ← Int32.toInt_inj, Int32.toInt_toInt64, tiA, tlA]); omega) | (split <;> (try simp only [Int32.lt_iff_toInt_lt, Int32.le_iff_toInt_le, ← Int32.toInt_inj, Int32.toInt_toInt64, tiA, tlA]) <;> omega))) (by decide) (fun _ => by decide)
                        have hK619 : Kd (fun j => j = 497 ∨ j = 498) (fun k => k = 10) lg0 it0 lg0 it616 := by rw [em617]; exact kd_uf (by first | decide | (dsimp only; decide) | omega | (dsimp only; omega)) hK611
                        have e620 : (it616 489 0).toInt = (it608 489 0).toInt := by rw [em617]; exact congrArg Int32.toInt (u2_ne (by decide))
                        have e622 : (it616 489 10).toInt = (((it608 489 10) + 1) : Int32).toInt := by rw [em617]; exact congrArg Int32.toInt u2_eq
                        have f623 : 0 ≤ (it616 489 10).toInt ∧ (it616 489 10).toInt ≤ 8 := i9_f hI618 (j := 489) (k := 10) rfl
                        subst hp
                        exact ⟨hI618, hK619⟩
                      · try simp only [Int32.lt_iff_toInt_lt, Int32.le_iff_toInt_le, ← Int32.toInt_inj, Int32.toInt_toInt64, tiA, tlA] at c96
                        subst hp
                        exact ⟨hI, hKr⟩
                    · try simp only [Int32.lt_iff_toInt_lt, Int32.le_iff_toInt_le, ← Int32.toInt_inj, Int32.toInt_toInt64, tiA, tlA] at c84
                      subst hp
                      exact ⟨hI, hKr⟩
              · try simp only [Int32.lt_iff_toInt_lt, Int32.le_iff_toInt_le, ← Int32.toInt_inj, Int32.toInt_toInt64, tiA, tlA] at c49
                refine ⟨fun c61 => ?_, fun c61 => ?_⟩
                · try simp only [Int32.lt_iff_toInt_lt, Int32.le_iff_toInt_le, ← Int32.toInt_inj, Int32.toInt_toInt64, tiA, tlA] at c61
                  subst hp
                  exact ⟨hI, hKr⟩
                · try simp only [Int32.lt_iff_toInt_lt, Int32.le_iff_toInt_le, ← Int32.toInt_inj, Int32.toInt_toInt64, tiA, tlA] at c61
                  unfold w_X9_event_b64
                  refine ⟨fun c66 => ?_, fun c66 => ?_⟩
                  · try simp only [Int32.lt_iff_toInt_lt, Int32.le_iff_toInt_le, ← Int32.toInt_inj, Int32.toInt_toInt64, tiA, tlA] at c66
                    unfold w_X9_event_b90
                    have f624 : 0 ≤ (it0 489 10).toInt ∧ (it0 489 10).toInt ≤ 8 := i9_f hI (j := 489) (k := 10) rfl
                    refine ⟨fun c96 => ?_, fun c96 => ?_⟩
                    · try simp only [Int32.lt_iff_toInt_lt, Int32.le_iff_toInt_le, ← Int32.toInt_inj, Int32.toInt_toInt64, tiA, tlA] at c96
                      have hi625 : vp_in (it0 489 10) 8 := vp_of (by first | omega | ((try simp only [Int32.lt_iff_toInt_lt, Int32.le_iff_toInt_le, ← Int32.toInt_inj, Int32.toInt_toInt64, tiA, tlA]); omega) | (split <;> omega)) (by first | omega | ((try simp only [Int32.lt_iff_toInt_lt, Int32.le_iff_toInt_le, ← Int32.toInt_inj, Int32.toInt_toInt64, tiA, tlA]); omega) | (split <;> omega))
                      refine ⟨hi625, ?_⟩
                      have hz626 := vlt hi625
                      intro it627 em628
                      have hI629 : I9 lg0 it627 := by rw [em628]; exact i9_u hI (ok9_n rfl) (by decide) (fun q => absurd q (by decide))
                      have hK630 : Kd (fun j => j = 497 ∨ j = 498) (fun k => k = 10) lg0 it0 lg0 it627 := by rw [em628]; exact kd_ur (by decide) (by first | decide | (dsimp only; decide) | omega | (dsimp only; omega)) hKr
                      have e631 : (it627 489 0).toInt = (it0 489 0).toInt := by rw [em628]; exact congrArg Int32.toInt (congrFun (u2_row (by decide)) 0)
                      have e632 : (it627 489 10).toInt = (it0 489 10).toInt := by rw [em628]; exact congrArg Int32.toInt (congrFun (u2_row (by decide)) 10)
                      have f633 : 0 ≤ (it627 489 10).toInt ∧ (it627 489 10).toInt ≤ 8 := i9_f hI629 (j := 489) (k := 10) rfl
                      have hi634 : vp_in (it627 489 10) 8 := vp_of (by first | omega | ((try simp only [Int32.lt_iff_toInt_lt, Int32.le_iff_toInt_le, ← Int32.toInt_inj, Int32.toInt_toInt64, tiA, tlA]); omega) | (split <;> omega)) (by first | omega | ((try simp only [Int32.lt_iff_toInt_lt, Int32.le_iff_toInt_le, ← Int32.toInt_inj, Int32.toInt_toInt64, tiA, tlA]); omega) | (split <;> omega))
                      refine ⟨hi634, ?_⟩
                      have hz635 := vlt hi634
                      intro it636 em637
                      have hI638 : I9 lg0 it636 := by rw [em637]; exact i9_u hI629 (ok9_b (a := 0) (b := 9) rfl (by first | decide | ((try simp only [Int32.lt_iff_toInt_lt, Int32.le_iff_toInt_le, ← Int32.toInt_inj, Int32.toInt_toInt64, tiA, tlA]); omega) | (split <;> (try simp only [Int32.lt_iff_toInt_lt, Int32.le_iff_toInt_le, ← Int32.toInt_inj, Int32.toInt_toInt64, tiA, tlA]) <;> omega))) (by decide) (fun q => absurd q (by decide))
                      have hK639 : Kd (fun j => j = 497 ∨ j = 498) (fun k => k = 10) lg0 it0 lg0 it636 := by rw [em637]; exact kd_ur (by decide) (by first | decide | (dsimp only; decide) | omega | (dsimp only; omega)) hK630
                      have e640 : (it636 489 0).toInt = (it627 489 0).toInt := by rw [em637]; exact congrArg Int32.toInt (congrFun (u2_row (by decide)) 0)
                      have e641 : (it636 489 10).toInt = (it627 489 10).toInt := by rw [em637]; exact congrArg Int32.toInt (congrFun (u2_row (by decide)) 10)
                      have f642 : 0 ≤ (it636 489 10).toInt ∧ (it636 489 10).toInt ≤ 8 := i9_f hI638 (j := 489) (k := 10) rfl
                      try have f643 : (((it636 489 10) + 1) : Int32).toInt = ((it636 489 10)).toInt + 1 := ad32 (a := ((it636 489 10)).toInt) (b := 1) (rfl) (ti_1) (by omega) (by omega)
                      intro it644 em645
                      have hI646 : I9 lg0 it644 := by rw [em645]; exact i9_u hI638 (ok9_b (a := 0) (b := 8) rfl (by first | decide | ((try simp only [Int32.lt_iff_toInt_lt, Int32.le_iff_toInt_le, ← Int32.toInt_inj, Int32.toInt_toInt64, tiA, tlA]); omega) | (split <;> (try simp only [Int32.lt_iff_toInt_lt, Int32.le_iff_toInt_le, ← Int32.toInt_inj, Int32.toInt_toInt64, tiA, tlA]) <;> omega))) (by decide) (fun _ => by decide)
                      have hK647 : Kd (fun j => j = 497 ∨ j = 498) (fun k => k = 10) lg0 it0 lg0 it644 := by rw [em645]; exact kd_uf (by first | decide | (dsimp only; decide) | omega | (dsimp only; omega)) hK639
                      have e648 : (it644 489 0).toInt = (it636 489 0).toInt := by rw [em645]; exact congrArg Int32.toInt (u2_ne (by decide))
                      have e650 : (it644 489 10).toInt = (((it636 489 10) + 1) : Int32).toInt := by rw [em645]; exact congrArg Int32.toInt u2_eq
                      have f651 : 0 ≤ (it644 489 10).toInt ∧ (it644 489 10).toInt ≤ 8 := i9_f hI646 (j := 489) (k := 10) rfl
                      subst hp
                      exact ⟨hI646, hK647⟩
                    · try simp only [Int32.lt_iff_toInt_lt, Int32.le_iff_toInt_le, ← Int32.toInt_inj, Int32.toInt_toInt64, tiA, tlA] at c96
                      subst hp
                      exact ⟨hI, hKr⟩
                  · try simp only [Int32.lt_iff_toInt_lt, Int32.le_iff_toInt_le, ← Int32.toInt_inj, Int32.toInt_toInt64, tiA, tlA] at c66
                    refine ⟨fun c78 => ?_, fun c78 => ?_⟩
                    · try simp only [Int32.lt_iff_toInt_lt, Int32.le_iff_toInt_le, ← Int32.toInt_inj, Int32.toInt_toInt64, tiA, tlA] at c78
                      unfold w_X9_event_b90
                      have f652 : 0 ≤ (it0 489 10).toInt ∧ (it0 489 10).toInt ≤ 8 := i9_f hI (j := 489) (k := 10) rfl
                      refine ⟨fun c96 => ?_, fun c96 => ?_⟩
                      · try simp only [Int32.lt_iff_toInt_lt, Int32.le_iff_toInt_le, ← Int32.toInt_inj, Int32.toInt_toInt64, tiA, tlA] at c96
                        have hi653 : vp_in (it0 489 10) 8 := vp_of (by first | omega | ((try simp only [Int32.lt_iff_toInt_lt, Int32.le_iff_toInt_le, ← Int32.toInt_inj, Int32.toInt_toInt64, tiA, tlA]); omega) | (split <;> omega)) (by first | omega | ((try simp only [Int32.lt_iff_toInt_lt, Int32.le_iff_toInt_le, ← Int32.toInt_inj, Int32.toInt_toInt64, tiA, tlA]); omega) | (split <;> omega))
                        refine ⟨hi653, ?_⟩
                        have hz654 := vlt hi653
                        intro it655 em656
                        have hI657 : I9 lg0 it655 := by rw [em656]; exact i9_u hI (ok9_n rfl) (by decide) (fun q => absurd q (by decide))
                        have hK658 : Kd (fun j => j = 497 ∨ j = 498) (fun k => k = 10) lg0 it0 lg0 it655 := by rw [em656]; exact kd_ur (by decide) (by first | decide | (dsimp only; decide) | omega | (dsimp only; omega)) hKr
                        have e659 : (it655 489 0).toInt = (it0 489 0).toInt := by rw [em656]; exact congrArg Int32.toInt (congrFun (u2_row (by decide)) 0)
                        have e660 : (it655 489 10).toInt = (it0 489 10).toInt := by rw [em656]; exact congrArg Int32.toInt (congrFun (u2_row (by decide)) 10)
                        have f661 : 0 ≤ (it655 489 10).toInt ∧ (it655 489 10).toInt ≤ 8 := i9_f hI657 (j := 489) (k := 10) rfl
                        have hi662 : vp_in (it655 489 10) 8 := vp_of (by first | omega | ((try simp only [Int32.lt_iff_toInt_lt, Int32.le_iff_toInt_le, ← Int32.toInt_inj, Int32.toInt_toInt64, tiA, tlA]); omega) | (split <;> omega)) (by first | omega | ((try simp only [Int32.lt_iff_toInt_lt, Int32.le_iff_toInt_le, ← Int32.toInt_inj, Int32.toInt_toInt64, tiA, tlA]); omega) | (split <;> omega))
                        refine ⟨hi662, ?_⟩
                        have hz663 := vlt hi662
                        intro it664 em665
                        have hI666 : I9 lg0 it664 := by rw [em665]; exact i9_u hI657 (ok9_b (a := 0) (b := 9) rfl (by first | decide | ((try simp only [Int32.lt_iff_toInt_lt, Int32.le_iff_toInt_le, ← Int32.toInt_inj, Int32.toInt_toInt64, tiA, tlA]); omega) | (split <;> (try simp only [Int32.lt_iff_toInt_lt, Int32.le_iff_toInt_le, ← Int32.toInt_inj, Int32.toInt_toInt64, tiA, tlA]) <;> omega))) (by decide) (fun q => absurd q (by decide))
                        have hK667 : Kd (fun j => j = 497 ∨ j = 498) (fun k => k = 10) lg0 it0 lg0 it664 := by rw [em665]; exact kd_ur (by decide) (by first | decide | (dsimp only; decide) | omega | (dsimp only; omega)) hK658
                        have e668 : (it664 489 0).toInt = (it655 489 0).toInt := by rw [em665]; exact congrArg Int32.toInt (congrFun (u2_row (by decide)) 0)
                        have e669 : (it664 489 10).toInt = (it655 489 10).toInt := by rw [em665]; exact congrArg Int32.toInt (congrFun (u2_row (by decide)) 10)
                        have f670 : 0 ≤ (it664 489 10).toInt ∧ (it664 489 10).toInt ≤ 8 := i9_f hI666 (j := 489) (k := 10) rfl
                        try have f671 : (((it664 489 10) + 1) : Int32).toInt = ((it664 489 10)).toInt + 1 := ad32 (a := ((it664 489 10)).toInt) (b := 1) (rfl) (ti_1) (by omega) (by omega)
                        intro it672 em673
                        have hI674 : I9 lg0 it672 := by rw [em673]; exact i9_u hI666 (ok9_b (a := 0) (b := 8) rfl (by first | decide | ((try simp only [Int32.lt_iff_toInt_lt, Int32.le_iff_toInt_le, ← Int32.toInt_inj, Int32.toInt_toInt64, tiA, tlA]); omega) | (split <;> (try simp only [Int32.lt_iff_toInt_lt, Int32.le_iff_toInt_le, ← Int32.toInt_inj, Int32.toInt_toInt64, tiA, tlA]) <;> omega))) (by decide) (fun _ => by decide)
                        have hK675 : Kd (fun j => j = 497 ∨ j = 498) (fun k => k = 10) lg0 it0 lg0 it672 := by rw [em673]; exact kd_uf (by first | decide | (dsimp only; decide) | omega | (dsimp only; omega)) hK667
                        have e676 : (it672 489 0).toInt = (it664 489 0).toInt := by rw [em673]; exact congrArg Int32.toInt (u2_ne (by decide))
                        have e678 : (it672 489 10).toInt = (((it664 489 10) + 1) : Int32).toInt := by rw [em673]; exact congrArg Int32.toInt u2_eq
                        have f679 : 0 ≤ (it672 489 10).toInt ∧ (it672 489 10).toInt ≤ 8 := i9_f hI674 (j := 489) (k := 10) rfl
                        subst hp
                        exact ⟨hI674, hK675⟩
                      · try simp only [Int32.lt_iff_toInt_lt, Int32.le_iff_toInt_le, ← Int32.toInt_inj, Int32.toInt_toInt64, tiA, tlA] at c96
                        subst hp
                        exact ⟨hI, hKr⟩
                    · try simp only [Int32.lt_iff_toInt_lt, Int32.le_iff_toInt_le, ← Int32.toInt_inj, Int32.toInt_toInt64, tiA, tlA] at c78
                      refine ⟨fun c84 => ?_, fun c84 => ?_⟩
                      · try simp only [Int32.lt_iff_toInt_lt, Int32.le_iff_toInt_le, ← Int32.toInt_inj, Int32.toInt_toInt64, tiA, tlA] at c84
                        unfold w_X9_event_b90
                        have f680 : 0 ≤ (it0 489 10).toInt ∧ (it0 489 10).toInt ≤ 8 := i9_f hI (j := 489) (k := 10) rfl
                        refine ⟨fun c96 => ?_, fun c96 => ?_⟩
                        · try simp only [Int32.lt_iff_toInt_lt, Int32.le_iff_toInt_le, ← Int32.toInt_inj, Int32.toInt_toInt64, tiA, tlA] at c96
                          have hi681 : vp_in (it0 489 10) 8 := vp_of (by first | omega | ((try simp only [Int32.lt_iff_toInt_lt, Int32.le_iff_toInt_le, ← Int32.toInt_inj, Int32.toInt_toInt64, tiA, tlA]); omega) | (split <;> omega)) (by first | omega | ((try simp only [Int32.lt_iff_toInt_lt, Int32.le_iff_toInt_le, ← Int32.toInt_inj, Int32.toInt_toInt64, tiA, tlA]); omega) | (split <;> omega))
                          refine ⟨hi681, ?_⟩
                          have hz682 := vlt hi681
                          intro it683 em684
                          have hI685 : I9 lg0 it683 := by rw [em684]; exact i9_u hI (ok9_n rfl) (by decide) (fun q => absurd q (by decide))
                          have hK686 : Kd (fun j => j = 497 ∨ j = 498) (fun k => k = 10) lg0 it0 lg0 it683 := by rw [em684]; exact kd_ur (by decide) (by first | decide | (dsimp only; decide) | omega | (dsimp only; omega)) hKr
                          have e687 : (it683 489 0).toInt = (it0 489 0).toInt := by rw [em684]; exact congrArg Int32.toInt (congrFun (u2_row (by decide)) 0)
                          have e688 : (it683 489 10).toInt = (it0 489 10).toInt := by rw [em684]; exact congrArg Int32.toInt (congrFun (u2_row (by decide)) 10)
                          have f689 : 0 ≤ (it683 489 10).toInt ∧ (it683 489 10).toInt ≤ 8 := i9_f hI685 (j := 489) (k := 10) rfl
                          have hi690 : vp_in (it683 489 10) 8 := vp_of (by first | omega | ((try simp only [Int32.lt_iff_toInt_lt, Int32.le_iff_toInt_le, ← Int32.toInt_inj, Int32.toInt_toInt64, tiA, tlA]); omega) | (split <;> omega)) (by first | omega | ((try simp only [Int32.lt_iff_toInt_lt, Int32.le_iff_toInt_le, ← Int32.toInt_inj, Int32.toInt_toInt64, tiA, tlA]); omega) | (split <;> omega))
                          refine ⟨hi690, ?_⟩
                          have hz691 := vlt hi690
                          intro it692 em693
                          have hI694 : I9 lg0 it692 := by rw [em693]; exact i9_u hI685 (ok9_b (a := 0) (b := 9) rfl (by first | decide | ((try simp only [Int32.lt_iff_toInt_lt, Int32.le_iff_toInt_le, ← Int32.toInt_inj, Int32.toInt_toInt64, tiA, tlA]); omega) | (split <;> (try simp only [Int32.lt_iff_toInt_lt, Int32.le_iff_toInt_le, ← Int32.toInt_inj, Int32.toInt_toInt64, tiA, tlA]) <;> omega))) (by decide) (fun q => absurd q (by decide))
                          have hK695 : Kd (fun j => j = 497 ∨ j = 498) (fun k => k = 10) lg0 it0 lg0 it692 := by rw [em693]; exact kd_ur (by decide) (by first | decide | (dsimp only; decide) | omega | (dsimp only; omega)) hK686
                          have e696 : (it692 489 0).toInt = (it683 489 0).toInt := by rw [em693]; exact congrArg Int32.toInt (congrFun (u2_row (by decide)) 0)
                          have e697 : (it692 489 10).toInt = (it683 489 10).toInt := by rw [em693]; exact congrArg Int32.toInt (congrFun (u2_row (by decide)) 10)
                          have f698 : 0 ≤ (it692 489 10).toInt ∧ (it692 489 10).toInt ≤ 8 := i9_f hI694 (j := 489) (k := 10) rfl
                          try have f699 : (((it692 489 10) + 1) : Int32).toInt = ((it692 489 10)).toInt + 1 := ad32 (a := ((it692 489 10)).toInt) (b := 1) (rfl) (ti_1) (by omega) (by omega)
                          intro it700 em701
                          have hI702 : I9 lg0 it700 := by rw [em701]; exact i9_u hI694 (ok9_b (a := 0) (b := 8) rfl (by first | decide | ((try simp only [Int32.lt_iff_toInt_lt, Int32.le_iff_toInt_le, ← Int32.toInt_inj, Int32.toInt_toInt64, tiA, tlA]); omega) | (split <;> (try simp only [Int32.lt_iff_toInt_lt, Int32.le_iff_toInt_le, ← Int32.toInt_inj, Int32.toInt_toInt64, tiA, tlA]) <;> omega))) (by decide) (fun _ => by decide)
                          have hK703 : Kd (fun j => j = 497 ∨ j = 498) (fun k => k = 10) lg0 it0 lg0 it700 := by rw [em701]; exact kd_uf (by first | decide | (dsimp only; decide) | omega | (dsimp only; omega)) hK695
                          have e704 : (it700 489 0).toInt = (it692 489 0).toInt := by rw [em701]; exact congrArg Int32.toInt (u2_ne (by decide))
                          have e706 : (it700 489 10).toInt = (((it692 489 10) + 1) : Int32).toInt := by rw [em701]; exact congrArg Int32.toInt u2_eq
                          have f707 : 0 ≤ (it700 489 10).toInt ∧ (it700 489 10).toInt ≤ 8 := i9_f hI702 (j := 489) (k := 10) rfl
                          subst hp
                          exact ⟨hI702, hK703⟩
                        · try simp only [Int32.lt_iff_toInt_lt, Int32.le_iff_toInt_le, ← Int32.toInt_inj, Int32.toInt_toInt64, tiA, tlA] at c96
                          subst hp
                          exact ⟨hI, hKr⟩
                      · try simp only [Int32.lt_iff_toInt_lt, Int32.le_iff_toInt_le, ← Int32.toInt_inj, Int32.toInt_toInt64, tiA, tlA] at c84
                        subst hp
                        exact ⟨hI, hKr⟩
        · try simp only [Int32.lt_iff_toInt_lt, Int32.le_iff_toInt_le, ← Int32.toInt_inj, Int32.toInt_toInt64, tiA, tlA] at c33
          subst hp
          exact ⟨hI, hKr⟩
  · try simp only [Int32.lt_iff_toInt_lt, Int32.le_iff_toInt_le, ← Int32.toInt_inj, Int32.toInt_toInt64, tiA, tlA] at c2
    intro it708 em709
    have hI710 : I9 lg0 it708 := by rw [em709]; exact i9_u hI (ok9_b (a := 0) (b := 8) rfl (by first | decide | ((try simp only [Int32.lt_iff_toInt_lt, Int32.le_iff_toInt_le, ← Int32.toInt_inj, Int32.toInt_toInt64, tiA, tlA]); omega) | (split <;> (try simp only [Int32.lt_iff_toInt_lt, Int32.le_iff_toInt_le, ← Int32.toInt_inj, Int32.toInt_toInt64, tiA, tlA]) <;> omega))) (by decide) (fun _ => by decide)
    have hK711 : Kd (fun j => j = 497 ∨ j = 498) (fun k => k = 10) lg0 it0 lg0 it708 := by rw [em709]; exact kd_uf (by first | decide | (dsimp only; decide) | omega | (dsimp only; omega)) hKr
    have e712 : (it708 489 0).toInt = (it0 489 0).toInt := by rw [em709]; exact congrArg Int32.toInt (u2_ne (by decide))
    subst hp
    exact ⟨hI710, hK711⟩
set_option maxRecDepth 100000 in
theorem s_X9_happens (a1 : Int32) (a2 : Int32) {lg0 : LGt} {it0 : ITt} (hI : I9 lg0 it0) (hT : T9 lg0 it0) (hn : 0 ≤ a2.toInt) : w_X9_happens a1 a2 (fun (lg' : LGt) (it' : ITt) => (I9 lg' it' ∧ Kd (fun j => j = 504 ∨ j = 505) (fun k => k = 18 ∨ k = 19 ∨ k = 20 ∨ k = 30 ∨ k = 31 ∨ k = 32) lg0 it0 lg' it') ∧ T9 lg' it')  lg0 it0 := by
  have hb_a1 := And.intro a1.le_toInt a1.toInt_lt
  have hb_a2 := And.intro a2.le_toInt a2.toInt_lt
  have hKr : Kd (fun j => j = 504 ∨ j = 505) (fun k => k = 18 ∨ k = 19 ∨ k = 20 ∨ k = 30 ∨ k = 31 ∨ k = 32) lg0 it0 lg0 it0 := kd_r
  generalize hp : (fun (lg' : LGt) (it' : ITt) => (I9 lg' it' ∧ Kd (fun j => j = 504 ∨ j = 505) (fun k => k = 18 ∨ k = 19 ∨ k = 20 ∨ k = 30 ∨ k = 31 ∨ k = 32) lg0 it0 lg' it') ∧ T9 lg' it') = Pz
  have bl113 : ∀ (s0 : Int32) (lg : LGt) (it : ITt), I9 lg it → Kd (fun j => j = 504 ∨ j = 505) (fun k => k = 18 ∨ k = 19 ∨ k = 20 ∨ k = 30 ∨ k = 31 ∨ k = 32) lg0 it0 lg it → ((T9 lg it)) → w_X9_happens_b113 a1 a2 Pz  s0 lg it := by
    intro s0 lg75 it76 hI73 hK74 hv
    unfold w_X9_happens_b113
    have hv113_0 := hv
    intro it77 em78
    have hI79 : I9 lg75 it77 := by rw [em78]; exact i9_u hI73 (ok9_n rfl) (by decide) (fun _ => by decide)
    have hK80 : Kd (fun j => j = 504 ∨ j = 505) (fun k => k = 18 ∨ k = 19 ∨ k = 20 ∨ k = 30 ∨ k = 31 ∨ k = 32) lg0 it0 lg75 it77 := by rw [em78]; exact kd_uf (by first | decide | (dsimp only; decide) | omega | (dsimp only; omega)) hK74
    have e81 : (it77 489 0).toInt = (it76 489 0).toInt := by rw [em78]; exact congrArg Int32.toInt (u2_ne (by decide))
    have PT82 : T9 lg75 it77 := T9_c hv113_0 rfl rfl (by rw [em78]; exact u2_row (by decide)) (by rw [em78]; exact u2_ne (by decide))
    refine ⟨_, s_X9_isBeyond  ((1 : Int32)) hI79 , ?_⟩
    intro v88 lg83 it84 hq
    obtain ⟨⟨hI85, hK86⟩, ha89⟩ := hq
    have hK87 : Kd (fun j => j = 504 ∨ j = 505) (fun k => k = 18 ∨ k = 19 ∨ k = 20 ∨ k = 30 ∨ k = 31 ∨ k = 32) lg0 it0 lg83 it84 := kd_t hK80 hK86 (fun j hj => by first | omega | exact False.elim hj | (dsimp only at hj ⊢; omega)) (fun j hj => by first | omega | exact False.elim hj | (dsimp only at hj ⊢; omega))
    try have e90 : (it84 489 0).toInt = (it77 489 0).toInt := congrArg Int32.toInt (hK86.2 0 (by first | decide | (dsimp only; decide) | omega | (dsimp only; omega))).2
    have PT91 : T9 lg83 it84 := T9_c PT82 (hK86.1 503 (by decide) (by first | decide | (dsimp only; decide) | omega | (dsimp only; omega))).1 (hK86.1 505 (by decide) (by first | decide | (dsimp only; decide) | omega | (dsimp only; omega))).1 (hK86.1 501 (by decide) (by first | decide | (dsimp only; decide) | omega | (dsimp only; omega))).2 (hK86.2 0 (by first | decide | (dsimp only; decide) | omega | (dsimp only; omega))).2
    refine ⟨fun c122 => ?_, fun c122 => ?_⟩
    · try simp only [Int32.lt_iff_toInt_lt, Int32.le_iff_toInt_le, ← Int32.toInt_inj, Int32.toInt_toInt64, tiA, tlA] at c122
      refine ⟨fun c135 => ?_, fun c135 => ?_⟩
      · try simp only [Int32.lt_iff_toInt_lt, Int32.le_iff_toInt_le, ← Int32.toInt_inj, Int32.toInt_toInt64, tiA, tlA] at c135
        intro it92 em93
        have hI94 : I9 lg83 it92 := by rw [em93]; exact i9_u hI85 (ok9_n rfl) (by decide) (fun _ => by decide)
        have hK95 : Kd (fun j => j = 504 ∨ j = 505) (fun k => k = 18 ∨ k = 19 ∨ k = 20 ∨ k = 30 ∨ k = 31 ∨ k = 32) lg0 it0 lg83 it92 := by rw [em93]; exact kd_uf (by first | decide | (dsimp only; decide) | omega | (dsimp only; omega)) hK87
        have e96 : (it92 489 0).toInt = (it84 489 0).toInt := by rw [em93]; exact congrArg Int32.toInt (u2_ne (by decide))
        have PT97 : T9 lg83 it92 := T9_c PT91 rfl rfl (by rw [em93]; exact u2_row (by decide)) (by rw [em93]; exact u2_ne (by decide))
        subst hp
        exact ⟨⟨hI94, hK95⟩, PT97⟩
      · try simp only [Int32.lt_iff_toInt_lt, Int32.le_iff_toInt_le, ← Int32.toInt_inj, Int32.toInt_toInt64, tiA, tlA] at c135
        intro it98 em99
        have hI100 : I9 lg83 it98 := by rw [em99]; exact i9_u hI85 (ok9_n rfl) (by decide) (fun _ => by decide)
        have hK101 : Kd (fun j => j = 504 ∨ j = 505) (fun k => k = 18 ∨ k = 19 ∨ k = 20 ∨ k = 30 ∨ k = 31 ∨ k = 32) lg0 it0 lg83 it98 := by rw [em99]; exact kd_uf (by first | decide | (dsimp only; decide) | omega | (dsimp only; omega)) hK87
        have e102 : (it98 489 0).toInt = (it84 489 0).toInt := by rw [em99]; exact congrArg Int32.toInt (u2_ne (by decide))
        have PT103 : T9 lg83 it98 := T9_c PT91 rfl rfl (by rw [em99]; exact u2_row (by decide)) (by rw [em99]; exact u2_ne (by decide))
        subst hp
        exact ⟨⟨hI100, hK101⟩, PT103⟩
    · try simp only [Int32.lt_iff_toInt_lt, Int32.le_iff_toInt_le, ← Int32.toInt_inj, Int32.toInt_toInt64, tiA, tlA] at c122
      intro it104 em105
      have hI106 : I9 lg83 it104 := by rw [em105]; exact i9_u hI85 (ok9_n rfl) (by decide) (fun _ => by decide)
      have hK107 : Kd (fun j => j = 504 ∨ j = 505) (fun k => k = 18 ∨ k = 19 ∨ k = 20 ∨ k = 30 ∨ k = 31 ∨ k = 32) lg0 it0 lg83 it104 := by rw [em105]; exact kd_uf (by first | decide | (dsimp only; decide) | omega | (dsimp only; omega)) hK87
      have e108 : (it104 489 0).toInt = (it84 489 0).toInt := by rw [em105]; exact congrArg Int32.toInt (u2_ne (by decide))
      have PT110 : T9 lg83 it104 := T9_c PT91 rfl rfl (by rw [em105]; exact u2_row (by decide)) (by rw [em105]; exact u2_ne (by decide))
      have e111 : (it104 489 32).toInt = ((it84 489 32) : Int32).toInt := by rw [em105]; exact congrArg Int32.toInt u2_eq
      subst hp
      exact ⟨⟨hI106, hK107⟩, PT110⟩
  have bl81 : ∀  (lg : LGt) (it : ITt), I9 lg it → Kd (fun j => j = 504 ∨ j = 505) (fun k => k = 18 ∨ k = 19 ∨ k = 20 ∨ k = 30 ∨ k = 31 ∨ k = 32) lg0 it0 lg it → ((T9 lg it)) → w_X9_happens_b81 a1 a2 Pz   lg it := by
    intro  lg114 it115 hI112 hK113 hv
    unfold w_X9_happens_b81
    have hv81_0 := hv
    refine ⟨fun c83 => ?_, fun c83 => ?_⟩
    · try simp only [Int32.lt_iff_toInt_lt, Int32.le_iff_toInt_le, ← Int32.toInt_inj, Int32.toInt_toInt64, tiA, tlA] at c83
      subst hp
      exact ⟨⟨hI112, hK113⟩, hv81_0⟩
    · try simp only [Int32.lt_iff_toInt_lt, Int32.le_iff_toInt_le, ← Int32.toInt_inj, Int32.toInt_toInt64, tiA, tlA] at c83
      refine ⟨_, s_X9_isBeyond  ((0 : Int32)) hI112 , ?_⟩
      intro v121 lg116 it117 hq
      obtain ⟨⟨hI118, hK119⟩, ha122⟩ := hq
      have hK120 : Kd (fun j => j = 504 ∨ j = 505) (fun k => k = 18 ∨ k = 19 ∨ k = 20 ∨ k = 30 ∨ k = 31 ∨ k = 32) lg0 it0 lg116 it117 := kd_t hK113 hK119 (fun j hj => by first | omega | exact False.elim hj | (dsimp only at hj ⊢; omega)) (fun j hj => by first | omega | exact False.elim hj | (dsimp only at hj ⊢; omega))
      try have e123 : (it117 489 0).toInt = (it115 489 0).toInt := congrArg Int32.toInt (hK119.2 0 (by first | decide | (dsimp only; decide) | omega | (dsimp only; omega))).2
      have PT124 : T9 lg116 it117 := T9_c hv81_0 (hK119.1 503 (by decide) (by first | decide | (dsimp only; decide) | omega | (dsimp only; omega))).1 (hK119.1 505 (by decide) (by first | decide | (dsimp only; decide) | omega | (dsimp only; omega))).1 (hK119.1 501 (by decide) (by first | decide | (dsimp only; decide) | omega | (dsimp only; omega))).2 (hK119.2 0 (by first | decide | (dsimp only; decide) | omega | (dsimp only; omega))).2
      refine ⟨fun c92 => ?_, fun c92 => ?_⟩
      · try simp only [Int32.lt_iff_toInt_lt, Int32.le_iff_toInt_le, ← Int32.toInt_inj, Int32.toInt_toInt64, tiA, tlA] at c92
        refine ⟨fun c105 => ?_, fun c105 => ?_⟩
        · try simp only [Int32.lt_iff_toInt_lt, Int32.le_iff_toInt_le, ← Int32.toInt_inj, Int32.toInt_toInt64, tiA, tlA] at c105
          exact bl113 (a2) _ _ hI118 hK120 (by first | omega | assumption)
        · try simp only [Int32.lt_iff_toInt_lt, Int32.le_iff_toInt_le, ← Int32.toInt_inj, Int32.toInt_toInt64, tiA, tlA] at c105
          have t125 := ti_m1
          exact bl113 (((-1) : Int32)) _ _ hI118 hK120 (by first | omega | assumption)
      · try simp only [Int32.lt_iff_toInt_lt, Int32.le_iff_toInt_le, ← Int32.toInt_inj, Int32.toInt_toInt64, tiA, tlA] at c92
        exact bl113 ((it117 489 31)) _ _ hI118 hK120 (by first | omega | assumption)
  have bl71 : ∀  (lg : LGt) (it : ITt), I9 lg it → Kd (fun j => j = 504 ∨ j = 505) (fun k => k = 18 ∨ k = 19 ∨ k = 20 ∨ k = 30 ∨ k = 31 ∨ k = 32) lg0 it0 lg it → ((T9 lg it)) → w_X9_happens_b71 a1 a2 Pz   lg it := by
    intro  lg128 it129 hI126 hK127 hv
    unfold w_X9_happens_b71
    have hv71_0 := hv
    refine ⟨fun c73 => ?_, fun c73 => ?_⟩
    · try simp only [Int32.lt_iff_toInt_lt, Int32.le_iff_toInt_le, ← Int32.toInt_inj, Int32.toInt_toInt64, tiA, tlA] at c73
      exact bl81  _ _ hI126 hK127 (by first | omega | assumption)
    · try simp only [Int32.lt_iff_toInt_lt, Int32.le_iff_toInt_le, ← Int32.toInt_inj, Int32.toInt_toInt64, tiA, tlA] at c73
      intro it130 em131
      have hI132 : I9 lg128 it130 := by rw [em131]; exact i9_u hI126 (ok9_n rfl) (by decide) (fun _ => by decide)
      have hK133 : Kd (fun j => j = 504 ∨ j = 505) (fun k => k = 18 ∨ k = 19 ∨ k = 20 ∨ k = 30 ∨ k = 31 ∨ k = 32) lg0 it0 lg128 it130 := by rw [em131]; exact kd_uf (by first | decide | (dsimp only; decide) | omega | (dsimp only; omega)) hK127
      have e134 : (it130 489 0).toInt = (it129 489 0).toInt := by rw [em131]; exact congrArg Int32.toInt (u2_ne (by decide))
      have PT135 : T9 lg128 it130 := T9_c hv71_0 rfl rfl (by rw [em131]; exact u2_row (by decide)) (by rw [em131]; exact u2_ne (by decide))
      exact bl81  _ _ hI132 hK133 (by first | omega | assumption)
  have bl19 : ∀  (lg : LGt) (it : ITt), I9 lg it → Kd (fun j => j = 504 ∨ j = 505) (fun k => k = 18 ∨ k = 19 ∨ k = 20 ∨ k = 30 ∨ k = 31 ∨ k = 32) lg0 it0 lg it → ((T9 lg it)) → w_X9_happens_b19 a1 a2 Pz   lg it := by
    intro  lg138 it139 hI136 hK137 hv
    unfold w_X9_happens_b19
    have hv19_0 := hv
    refine ⟨fun c21 => ?_, fun c21 => ?_⟩
    · try simp only [Int32.lt_iff_toInt_lt, Int32.le_iff_toInt_le, ← Int32.toInt_inj, Int32.toInt_toInt64, tiA, tlA] at c21
      exact bl71  _ _ hI136 hK137 (by first | omega | assumption)
    · try simp only [Int32.lt_iff_toInt_lt, Int32.le_iff_toInt_le, ← Int32.toInt_inj, Int32.toInt_toInt64, tiA, tlA] at c21
      have lp26 : ∀ (n : Nat) (x3 : Int32) (lg : LGt) (it : ITt), I9 lg it → Kd (fun j => j = 504 ∨ j = 505) (fun k => k = 18 ∨ k = 19 ∨ k = 20 ∨ k = 30 ∨ k = 31 ∨ k = 32) lg0 it0 lg it → ((0 ≤ (x3).toInt) ∧ (T9 lg it)) → (7 - (x3).toInt).toNat < n → w_X9_happens_b26 a1 a2 Pz  n x3 lg it := by
        intro n26
        induction n26 with
        | zero => intro x3 lg it _ _ _ hn; exact absurd hn (Nat.not_lt_zero _)
        | succ n26 ih26 =>
          intro x3 lg142 it143 hI140 hK141 hv hn
          unfold w_X9_happens_b26
          obtain ⟨hv26_0, hv26_1⟩ := hv
          have f144 : 0 ≤ (it143 489 0).toInt ∧ (it143 489 0).toInt ≤ 6 := i9_f hI140 (j := 489) (k := 0) rfl
          refine ⟨fun c31 => ?_, fun c31 => ?_⟩
          · try simp only [Int32.lt_iff_toInt_lt, Int32.le_iff_toInt_le, ← Int32.toInt_inj, Int32.toInt_toInt64, tiA, tlA] at c31
            exact bl71  _ _ hI140 hK141 (by first | omega | assumption)
          · try simp only [Int32.lt_iff_toInt_lt, Int32.le_iff_toInt_le, ← Int32.toInt_inj, Int32.toInt_toInt64, tiA, tlA] at c31
            have hi145 : vp_in x3 6 := vp_of (by first | omega | ((try simp only [Int32.lt_iff_toInt_lt, Int32.le_iff_toInt_le, ← Int32.toInt_inj, Int32.toInt_toInt64, tiA, tlA]); omega) | (split <;> omega)) (by first | omega | ((try simp only [Int32.lt_iff_toInt_lt, Int32.le_iff_toInt_le, ← Int32.toInt_inj, Int32.toInt_toInt64, tiA, tlA]); omega) | (split <;> omega))
            refine ⟨hi145, ?_⟩
            have hz146 := vlt hi145
            have hi147 : vp_in x3 6 := vp_of (by first | omega | ((try simp only [Int32.lt_iff_toInt_lt, Int32.le_iff_toInt_le, ← Int32.toInt_inj, Int32.toInt_toInt64, tiA, tlA]); omega) | (split <;> omega)) (by first | omega | ((try simp only [Int32.lt_iff_toInt_lt, Int32.le_iff_toInt_le, ← Int32.toInt_inj, Int32.toInt_toInt64, tiA, tlA]); omega) | (split <;> omega))
            refine ⟨hi147, ?_⟩
            have hz148 := vlt hi147
            have hc152 : o01 it143 := i9_o hI140
            refine ⟨hc152, ?_⟩
            have hc153 : ¬ (1 : Int64) = 0 := by decide
            refine ⟨hc153, ?_⟩
            have hc154 : ¬ (lg142 505 x3.toNatClampNeg) = 0 := (hv26_1 (x3).toNatClampNeg (by have z1 := cl32 (i := x3) (by omega); omega) (by have z1 := cl32 (i := x3) (by omega); omega)).1.2
            refine ⟨hc154, ?_⟩
            intro q149 em_q149 lg150 em_lg150 it151 em_it151
            have hI155 : I9 lg150 it151 := by rw [em_lg150, em_it151]; exact i9_g hI140 (by rw [em_q149]; exact gL_o (i9_o hI140))
            have hK156 : Kd (fun j => j = 504 ∨ j = 505) (fun k => k = 18 ∨ k = 19 ∨ k = 20 ∨ k = 30 ∨ k = 31 ∨ k = 32) lg0 it0 lg150 it151 := by rw [em_lg150, em_it151]; exact kd_g (by first | decide | (dsimp only; decide) | omega | (dsimp only; omega)) (by first | decide | (dsimp only; decide) | omega | (dsimp only; omega)) (by first | decide | (dsimp only; decide) | omega | (dsimp only; omega)) hK141
            have z19_lg150 : ¬ lg150 489 19 = 0 := by rw [em_lg150, setU_19, em_q149]; exact gL_d hc153 hc154
            try have w_lg150 : ¬ lg150 489 18 = 0 ∨ ¬ it151 489 20 = 0 := by rw [em_lg150, setU_18, em_it151, setO_o, em_q149]; exact less0_up (neg_ne0 (Int64.not_le.mp (by assumption)))
            have e157 : (it151 489 0).toInt = (it143 489 0).toInt := by rw [em_it151]; exact congrArg Int32.toInt (setO_c (by decide))
            have PT158 : T9 lg150 it151 := T9_c hv26_1 (by rw [em_lg150]; exact setU_row (by decide)) (by rw [em_lg150]; exact setU_row (by decide)) (by rw [em_it151]; exact setO_row (by decide)) (by rw [em_it151]; exact setO_c (by decide))
            refine ⟨_, s_X9_becomes  (x3) ((lg150 489 18)) ((lg150 489 19)) hI155 (by first | omega | (constructor <;> first | decide | omega | ((try simp only [Int32.lt_iff_toInt_lt, Int32.le_iff_toInt_le, ← Int32.toInt_inj, Int32.toInt_toInt64, tiA, tlA]); omega))) (by assumption), ?_⟩
            intro lg159 it160 hq
            obtain ⟨⟨hI161, hK162⟩, ha165⟩ := hq
            have hK163 : Kd (fun j => j = 504 ∨ j = 505) (fun k => k = 18 ∨ k = 19 ∨ k = 20 ∨ k = 30 ∨ k = 31 ∨ k = 32) lg0 it0 lg159 it160 := kd_t hK156 hK162 (fun j hj => by first | omega | exact False.elim hj | (dsimp only at hj ⊢; omega)) (fun j hj => by first | omega | exact False.elim hj | (dsimp only at hj ⊢; omega))
            try have e166 : (it160 489 0).toInt = (it151 489 0).toInt := congrArg Int32.toInt (hK162.2 0 (by first | decide | (dsimp only; decide) | omega | (dsimp only; omega))).2
            have Pz19167 : ¬ lg159 489 19 = 0 := z_c (z19_lg150) (hK162.2 19 (by first | decide | (dsimp only; decide) | omega | (dsimp only; omega))).1
            have PT168 : T9 lg159 it160 := ha165 PT158
            try have f169 : ((x3 + 1) : Int32).toInt = (x3).toInt + 1 := ad32 (a := (x3).toInt) (b := 1) (rfl) (ti_1) (by omega) (by omega)
            exact ih26 ((x3 + 1)) _ _ hI161 hK163 (by refine ⟨?_, ?_⟩ <;> first | exact Nx_0 | omega | assumption | exact Or.inl rfl | exact Or.inr rfl | exact i8_1 (by assumption) (by assumption) | decide) (by omega)
      have t170 := ti_0
      exact ⟨_, lp26 ((7 - ((0 : Int32)).toInt).toNat + 1) ((0 : Int32)) _ _ hI136 hK137 (by refine ⟨?_, ?_⟩ <;> first | exact Nx_0 | omega | assumption | exact Or.inl rfl | exact Or.inr rfl | exact i8_1 (by assumption) (by assumption) | decide) (Nat.lt_succ_self _)⟩
  unfold w_X9_happens
  have t0 := ti_0
  have t9 := ti_9
  have tm1 := ti_m1
  refine ⟨fun c1 => ?_, fun c1 => ?_⟩
  · try simp only [Int32.lt_iff_toInt_lt, Int32.le_iff_toInt_le, ← Int32.toInt_inj, Int32.toInt_toInt64, tiA, tlA] at c1
    exact bl19  _ _ hI hKr (by first | omega | assumption)
  · try simp only [Int32.lt_iff_toInt_lt, Int32.le_iff_toInt_le, ← Int32.toInt_inj, Int32.toInt_toInt64, tiA, tlA] at c1
    have f171 : 0 ≤ (it0 489 0).toInt ∧ (it0 489 0).toInt ≤ 6 := i9_f hI (j := 489) (k := 0) rfl
    refine ⟨fun c9 => ?_, fun c9 => ?_⟩
    · try simp only [Int32.lt_iff_toInt_lt, Int32.le_iff_toInt_le, ← Int32.toInt_inj, Int32.toInt_toInt64, tiA, tlA] at c9
      exact bl19  _ _ hI hKr (by first | omega | assumption)
    · try simp only [Int32.lt_iff_toInt_lt, Int32.le_iff_toInt_le, ← Int32.toInt_inj, Int32.toInt_toInt64, tiA, tlA] at c9
      refine ⟨_, s_X9_becomes  (a2) ((0 : Int64)) ((1 : Int64)) hI (by first | omega | (constructor <;> first | decide | omega | ((try simp only [Int32.lt_iff_toInt_lt, Int32.le_iff_toInt_le, ← Int32.toInt_inj, Int32.toInt_toInt64, tiA, tlA]); omega))) (by decide), ?_⟩
      intro lg172 it173 hq
      obtain ⟨⟨hI174, hK175⟩, ha178⟩ := hq
      have hK176 : Kd (fun j => j = 504 ∨ j = 505) (fun k => k = 18 ∨ k = 19 ∨ k = 20 ∨ k = 30 ∨ k = 31 ∨ k = 32) lg0 it0 lg172 it173 := kd_t hKr hK175 (fun j hj => by first | omega | exact False.elim hj | (dsimp only at hj ⊢; omega)) (fun j hj => by first | omega | exact False.elim hj | (dsimp only at hj ⊢; omega))
      try have e179 : (it173 489 0).toInt = (it0 489 0).toInt := congrArg Int32.toInt (hK175.2 0 (by first | decide | (dsimp only; decide) | omega | (dsimp only; omega))).2
      have PT180 : T9 lg172 it173 := ha178 hT
      exact bl19  _ _ hI174 hK176 (by first | omega | assumption)
set_option maxRecDepth 100000 in
theorem s_X9_after (a1 : Int32) {lg0 : LGt} {it0 : ITt} (hI : I9 lg0 it0) : w_X9_after a1 (fun (v : Int32) (lg' : LGt) (it' : ITt) => (I9 lg' it' ∧ Kd (fun j => j = 501 ∨ j = 502 ∨ j = 503 ∨ j = 504 ∨ j = 505 ∨ j = 506 ∨ j = 507 ∨ j = 508 ∨ j = 509 ∨ j = 510 ∨ j = 511 ∨ j = 512) (fun k => k = 18 ∨ k = 19 ∨ k = 20 ∨ k = 28 ∨ k = 29 ∨ k = 30 ∨ k = 31 ∨ k = 32 ∨ k = 33 ∨ k = 34 ∨ k = 35 ∨ k = 36 ∨ k = 37 ∨ k = 38 ∨ k = 39 ∨ k = 40 ∨ k = 41 ∨ k = 42 ∨ k = 43) lg0 it0 lg' it'))  lg0 it0 := by
  have hb_a1 := And.intro a1.le_toInt a1.toInt_lt
  have hKr : Kd (fun j => j = 501 ∨ j = 502 ∨ j = 503 ∨ j = 504 ∨ j = 505 ∨ j = 506 ∨ j = 507 ∨ j = 508 ∨ j = 509 ∨ j = 510 ∨ j = 511 ∨ j = 512) (fun k => k = 18 ∨ k = 19 ∨ k = 20 ∨ k = 28 ∨ k = 29 ∨ k = 30 ∨ k = 31 ∨ k = 32 ∨ k = 33 ∨ k = 34 ∨ k = 35 ∨ k = 36 ∨ k = 37 ∨ k = 38 ∨ k = 39 ∨ k = 40 ∨ k = 41 ∨ k = 42 ∨ k = 43) lg0 it0 lg0 it0 := kd_r
  generalize hp : (fun (v : Int32) (lg' : LGt) (it' : ITt) => (I9 lg' it' ∧ Kd (fun j => j = 501 ∨ j = 502 ∨ j = 503 ∨ j = 504 ∨ j = 505 ∨ j = 506 ∨ j = 507 ∨ j = 508 ∨ j = 509 ∨ j = 510 ∨ j = 511 ∨ j = 512) (fun k => k = 18 ∨ k = 19 ∨ k = 20 ∨ k = 28 ∨ k = 29 ∨ k = 30 ∨ k = 31 ∨ k = 32 ∨ k = 33 ∨ k = 34 ∨ k = 35 ∨ k = 36 ∨ k = 37 ∨ k = 38 ∨ k = 39 ∨ k = 40 ∨ k = 41 ∨ k = 42 ∨ k = 43) lg0 it0 lg' it')) = Pz
  unfold w_X9_after
  have t0 := ti_0
  have t9 := ti_9
  have tm1 := ti_m1
  refine ⟨fun c9 => ?_, fun c9 => ?_⟩
  · try simp only [Int32.lt_iff_toInt_lt, Int32.le_iff_toInt_le, ← Int32.toInt_inj, Int32.toInt_toInt64, tiA, tlA] at c9
    refine ⟨_, s_X9_minds   hI , ?_⟩
    intro lg40 it41 hq
    obtain ⟨⟨hI42, hK43⟩, ha46⟩ := hq
    have hK44 : Kd (fun j => j = 501 ∨ j = 502 ∨ j = 503 ∨ j = 504 ∨ j = 505 ∨ j = 506 ∨ j = 507 ∨ j = 508 ∨ j = 509 ∨ j = 510 ∨ j = 511 ∨ j = 512) (fun k => k = 18 ∨ k = 19 ∨ k = 20 ∨ k = 28 ∨ k = 29 ∨ k = 30 ∨ k = 31 ∨ k = 32 ∨ k = 33 ∨ k = 34 ∨ k = 35 ∨ k = 36 ∨ k = 37 ∨ k = 38 ∨ k = 39 ∨ k = 40 ∨ k = 41 ∨ k = 42 ∨ k = 43) lg0 it0 lg40 it41 := kd_t hKr hK43 (fun j hj => by first | omega | exact False.elim hj | (dsimp only at hj ⊢; omega)) (fun j hj => by first | omega | exact False.elim hj | (dsimp only at hj ⊢; omega))
    try have e47 : (it41 489 0).toInt = (it0 489 0).toInt := congrArg Int32.toInt (hK43.2 0 (by first | decide | (dsimp only; decide) | omega | (dsimp only; omega))).2
    try have e48 : (it41 489 42).toInt = (it0 489 42).toInt := congrArg Int32.toInt (hK43.2 42 (by first | decide | (dsimp only; decide) | omega | (dsimp only; omega))).2
    intro it49 em50
    have hI51 : I9 lg40 it49 := by rw [em50]; exact i9_u hI42 (ok9_b (a := 0) (b := 1) rfl (by first | decide | ((try simp only [Int32.lt_iff_toInt_lt, Int32.le_iff_toInt_le, ← Int32.toInt_inj, Int32.toInt_toInt64, tiA, tlA]); omega) | (split <;> (try simp only [Int32.lt_iff_toInt_lt, Int32.le_iff_toInt_le, ← Int32.toInt_inj, Int32.toInt_toInt64, tiA, tlA]) <;> omega))) (by decide) (fun _ => by decide)
    have hK52 : Kd (fun j => j = 501 ∨ j = 502 ∨ j = 503 ∨ j = 504 ∨ j = 505 ∨ j = 506 ∨ j = 507 ∨ j = 508 ∨ j = 509 ∨ j = 510 ∨ j = 511 ∨ j = 512) (fun k => k = 18 ∨ k = 19 ∨ k = 20 ∨ k = 28 ∨ k = 29 ∨ k = 30 ∨ k = 31 ∨ k = 32 ∨ k = 33 ∨ k = 34 ∨ k = 35 ∨ k = 36 ∨ k = 37 ∨ k = 38 ∨ k = 39 ∨ k = 40 ∨ k = 41 ∨ k = 42 ∨ k = 43) lg0 it0 lg40 it49 := by rw [em50]; exact kd_uf (by first | decide | (dsimp only; decide) | omega | (dsimp only; omega)) hK44
    have e53 : (it49 489 0).toInt = (it41 489 0).toInt := by rw [em50]; exact congrArg Int32.toInt (u2_ne (by decide))
    have e54 : (it49 489 42).toInt = (it41 489 42).toInt := by rw [em50]; exact congrArg Int32.toInt (u2_ne (by decide))
    have PT55 : T9 lg40 it49 := T9_c ha46 rfl rfl (by rw [em50]; exact u2_row (by decide)) (by rw [em50]; exact u2_ne (by decide))
    have lp25 : ∀ (n : Nat) (x2 : Int32) (lg : LGt) (it : ITt), I9 lg it → Kd (fun j => j = 501 ∨ j = 502 ∨ j = 503 ∨ j = 504 ∨ j = 505 ∨ j = 506 ∨ j = 507 ∨ j = 508 ∨ j = 509 ∨ j = 510 ∨ j = 511 ∨ j = 512) (fun k => k = 18 ∨ k = 19 ∨ k = 20 ∨ k = 28 ∨ k = 29 ∨ k = 30 ∨ k = 31 ∨ k = 32 ∨ k = 33 ∨ k = 34 ∨ k = 35 ∨ k = 36 ∨ k = 37 ∨ k = 38 ∨ k = 39 ∨ k = 40 ∨ k = 41 ∨ k = 42 ∨ k = 43) lg0 it0 lg it → ((0 ≤ (x2).toInt) ∧ (T9 lg it)) → (9 - (x2).toInt).toNat < n → w_X9_after_b25 a1 Pz  n x2 lg it := by
      intro n25
      induction n25 with
      | zero => intro x2 lg it _ _ _ hn; exact absurd hn (Nat.not_lt_zero _)
      | succ n25 ih25 =>
        intro x2 lg58 it59 hI56 hK57 hv hn
        unfold w_X9_after_b25
        obtain ⟨hv25_0, hv25_1⟩ := hv
        have f60 : 0 ≤ (it59 489 10).toInt ∧ (it59 489 10).toInt ≤ 8 := i9_f hI56 (j := 489) (k := 10) rfl
        refine ⟨fun c30 => ?_, fun c30 => ?_⟩
        · try simp only [Int32.lt_iff_toInt_lt, Int32.le_iff_toInt_le, ← Int32.toInt_inj, Int32.toInt_toInt64, tiA, tlA] at c30
          refine ⟨_, s_X9_goesOn  ((20 : Int32)) hI56 (hv25_1) (by first | decide | omega | ((try simp only [Int32.lt_iff_toInt_lt, Int32.le_iff_toInt_le, ← Int32.toInt_inj, Int32.toInt_toInt64, tiA, tlA]); omega)), ?_⟩
          intro lg61 it62 hq
          obtain ⟨⟨hI63, hK64⟩, ha67⟩ := hq
          have hK65 : Kd (fun j => j = 501 ∨ j = 502 ∨ j = 503 ∨ j = 504 ∨ j = 505 ∨ j = 506 ∨ j = 507 ∨ j = 508 ∨ j = 509 ∨ j = 510 ∨ j = 511 ∨ j = 512) (fun k => k = 18 ∨ k = 19 ∨ k = 20 ∨ k = 28 ∨ k = 29 ∨ k = 30 ∨ k = 31 ∨ k = 32 ∨ k = 33 ∨ k = 34 ∨ k = 35 ∨ k = 36 ∨ k = 37 ∨ k = 38 ∨ k = 39 ∨ k = 40 ∨ k = 41 ∨ k = 42 ∨ k = 43) lg0 it0 lg61 it62 := kd_t hK57 hK64 (fun j hj => by first | omega | exact False.elim hj | (dsimp only at hj ⊢; omega)) (fun j hj => by first | omega | exact False.elim hj | (dsimp only at hj ⊢; omega))
          try have e68 : (it62 489 0).toInt = (it59 489 0).toInt := congrArg Int32.toInt (hK64.2 0 (by first | decide | (dsimp only; decide) | omega | (dsimp only; omega))).2
          try have e69 : (it62 489 42).toInt = (it59 489 42).toInt := congrArg Int32.toInt (hK64.2 42 (by first | decide | (dsimp only; decide) | omega | (dsimp only; omega))).2
          try have e70 : (it62 489 10).toInt = (it59 489 10).toInt := congrArg Int32.toInt (hK64.2 10 (by first | decide | (dsimp only; decide) | omega | (dsimp only; omega))).2
          refine ⟨fun c62 => ?_, fun c62 => ?_⟩
          · try simp only [Int32.lt_iff_toInt_lt, Int32.le_iff_toInt_le, ← Int32.toInt_inj, Int32.toInt_toInt64, tiA, tlA] at c62
            refine ⟨fun c74 => ?_, fun c74 => ?_⟩
            · try simp only [Int32.lt_iff_toInt_lt, Int32.le_iff_toInt_le, ← Int32.toInt_inj, Int32.toInt_toInt64, tiA, tlA] at c74
              have f71 : 0 ≤ (it62 489 42).toInt ∧ (it62 489 42).toInt ≤ 20 := i9_f hI63 (j := 489) (k := 42) rfl
              refine ⟨fun c88 => ?_, fun c88 => ?_⟩
              · try simp only [Int32.lt_iff_toInt_lt, Int32.le_iff_toInt_le, ← Int32.toInt_inj, Int32.toInt_toInt64, tiA, tlA] at c88
                subst hp
                exact ⟨hI63, hK65⟩
              · try simp only [Int32.lt_iff_toInt_lt, Int32.le_iff_toInt_le, ← Int32.toInt_inj, Int32.toInt_toInt64, tiA, tlA] at c88
                subst hp
                exact ⟨hI63, hK65⟩
            · try simp only [Int32.lt_iff_toInt_lt, Int32.le_iff_toInt_le, ← Int32.toInt_inj, Int32.toInt_toInt64, tiA, tlA] at c74
              subst hp
              exact ⟨hI63, hK65⟩
          · try simp only [Int32.lt_iff_toInt_lt, Int32.le_iff_toInt_le, ← Int32.toInt_inj, Int32.toInt_toInt64, tiA, tlA] at c62
            have f72 : 0 ≤ (it62 489 42).toInt ∧ (it62 489 42).toInt ≤ 20 := i9_f hI63 (j := 489) (k := 42) rfl
            subst hp
            exact ⟨hI63, hK65⟩
        · try simp only [Int32.lt_iff_toInt_lt, Int32.le_iff_toInt_le, ← Int32.toInt_inj, Int32.toInt_toInt64, tiA, tlA] at c30
          have hi73 : vp_in x2 8 := vp_of (by first | omega | ((try simp only [Int32.lt_iff_toInt_lt, Int32.le_iff_toInt_le, ← Int32.toInt_inj, Int32.toInt_toInt64, tiA, tlA]); omega) | (split <;> omega)) (by first | omega | ((try simp only [Int32.lt_iff_toInt_lt, Int32.le_iff_toInt_le, ← Int32.toInt_inj, Int32.toInt_toInt64, tiA, tlA]); omega) | (split <;> omega))
          refine ⟨hi73, ?_⟩
          have hz74 := vlt hi73
          have hi75 : vp_in x2 8 := vp_of (by first | omega | ((try simp only [Int32.lt_iff_toInt_lt, Int32.le_iff_toInt_le, ← Int32.toInt_inj, Int32.toInt_toInt64, tiA, tlA]); omega) | (split <;> omega)) (by first | omega | ((try simp only [Int32.lt_iff_toInt_lt, Int32.le_iff_toInt_le, ← Int32.toInt_inj, Int32.toInt_toInt64, tiA, tlA]); omega) | (split <;> omega))
          refine ⟨hi75, ?_⟩
          have hz76 := vlt hi75
          have f77 : 0 ≤ (it59 498 x2.toNatClampNeg).toInt ∧ (it59 498 x2.toNatClampNeg).toInt ≤ 9 := i9_f hI56 (j := 498) (k := x2.toNatClampNeg) rfl
          refine ⟨_, s_X9_happens  ((it59 497 x2.toNatClampNeg)) ((it59 498 x2.toNatClampNeg)) hI56 (hv25_1) (by omega), ?_⟩
          intro lg78 it79 hq
          obtain ⟨⟨hI80, hK81⟩, ha84⟩ := hq
          have hK82 : Kd (fun j => j = 501 ∨ j = 502 ∨ j = 503 ∨ j = 504 ∨ j = 505 ∨ j = 506 ∨ j = 507 ∨ j = 508 ∨ j = 509 ∨ j = 510 ∨ j = 511 ∨ j = 512) (fun k => k = 18 ∨ k = 19 ∨ k = 20 ∨ k = 28 ∨ k = 29 ∨ k = 30 ∨ k = 31 ∨ k = 32 ∨ k = 33 ∨ k = 34 ∨ k = 35 ∨ k = 36 ∨ k = 37 ∨ k = 38 ∨ k = 39 ∨ k = 40 ∨ k = 41 ∨ k = 42 ∨ k = 43) lg0 it0 lg78 it79 := kd_t hK57 hK81 (fun j hj => by first | omega | exact False.elim hj | (dsimp only at hj ⊢; omega)) (fun j hj => by first | omega | exact False.elim hj | (dsimp only at hj ⊢; omega))
          try have e85 : (it79 489 0).toInt = (it59 489 0).toInt := congrArg Int32.toInt (hK81.2 0 (by first | decide | (dsimp only; decide) | omega | (dsimp only; omega))).2
          try have e86 : (it79 489 42).toInt = (it59 489 42).toInt := congrArg Int32.toInt (hK81.2 42 (by first | decide | (dsimp only; decide) | omega | (dsimp only; omega))).2
          try have e87 : (it79 489 10).toInt = (it59 489 10).toInt := congrArg Int32.toInt (hK81.2 10 (by first | decide | (dsimp only; decide) | omega | (dsimp only; omega))).2
          try have f88 : ((x2 + 1) : Int32).toInt = (x2).toInt + 1 := ad32 (a := (x2).toInt) (b := 1) (rfl) (ti_1) (by omega) (by omega)
          exact ih25 ((x2 + 1)) _ _ hI80 hK82 (by refine ⟨?_, ?_⟩ <;> first | exact Nx_0 | omega | assumption | exact Or.inl rfl | exact Or.inr rfl | exact i8_1 (by assumption) (by assumption) | decide) (by omega)
    have t89 := ti_0
    exact ⟨_, lp25 ((9 - ((0 : Int32)).toInt).toNat + 1) ((0 : Int32)) _ _ hI51 hK52 (by refine ⟨?_, ?_⟩ <;> first | exact Nx_0 | omega | assumption | exact Or.inl rfl | exact Or.inr rfl | exact i8_1 (by assumption) (by assumption) | decide) (Nat.lt_succ_self _)⟩
  · try simp only [Int32.lt_iff_toInt_lt, Int32.le_iff_toInt_le, ← Int32.toInt_inj, Int32.toInt_toInt64, tiA, tlA] at c9
    subst hp
    exact ⟨hI, hKr⟩
set_option maxRecDepth 100000 in
theorem s_X9_book (a1 : Int32) (a2 : Int32) {lg0 : LGt} {it0 : ITt} (hI : I9 lg0 it0) : w_X9_book a1 a2 (fun (v : Int32) (lg' : LGt) (it' : ITt) => (I9 lg' it' ∧ Kd (fun j => j = 499 ∨ j = 500) (fun k => k = 11) lg0 it0 lg' it'))  lg0 it0 := by
  have hb_a1 := And.intro a1.le_toInt a1.toInt_lt
  have hb_a2 := And.intro a2.le_toInt a2.toInt_lt
  have hKr : Kd (fun j => j = 499 ∨ j = 500) (fun k => k = 11) lg0 it0 lg0 it0 := kd_r
  generalize hp : (fun (v : Int32) (lg' : LGt) (it' : ITt) => (I9 lg' it' ∧ Kd (fun j => j = 499 ∨ j = 500) (fun k => k = 11) lg0 it0 lg' it')) = Pz
  unfold w_X9_book
  refine ⟨fun c2 => ?_, fun c2 => ?_⟩
  · try simp only [Int32.lt_iff_toInt_lt, Int32.le_iff_toInt_le, ← Int32.toInt_inj, Int32.toInt_toInt64, tiA, tlA] at c2
    refine ⟨fun c21 => ?_, fun c21 => ?_⟩
    · try simp only [Int32.lt_iff_toInt_lt, Int32.le_iff_toInt_le, ← Int32.toInt_inj, Int32.toInt_toInt64, tiA, tlA] at c21
      subst hp
      exact ⟨hI, hKr⟩
    · try simp only [Int32.lt_iff_toInt_lt, Int32.le_iff_toInt_le, ← Int32.toInt_inj, Int32.toInt_toInt64, tiA, tlA] at c21
      refine ⟨fun c28 => ?_, fun c28 => ?_⟩
      · try simp only [Int32.lt_iff_toInt_lt, Int32.le_iff_toInt_le, ← Int32.toInt_inj, Int32.toInt_toInt64, tiA, tlA] at c28
        have f19 : 0 ≤ (it0 489 11).toInt ∧ (it0 489 11).toInt ≤ 8 := i9_f hI (j := 489) (k := 11) rfl
        refine ⟨fun c39 => ?_, fun c39 => ?_⟩
        · try simp only [Int32.lt_iff_toInt_lt, Int32.le_iff_toInt_le, ← Int32.toInt_inj, Int32.toInt_toInt64, tiA, tlA] at c39
          have hi20 : vp_in (it0 489 11) 8 := vp_of (by first | omega | ((try simp only [Int32.lt_iff_toInt_lt, Int32.le_iff_toInt_le, ← Int32.toInt_inj, Int32.toInt_toInt64, tiA, tlA]); omega) | (split <;> omega)) (by first | omega | ((try simp only [Int32.lt_iff_toInt_lt, Int32.le_iff_toInt_le, ← Int32.toInt_inj, Int32.toInt_toInt64, tiA, tlA]); omega) | (split <;> omega))
          refine ⟨hi20, ?_⟩
          have hz21 := vlt hi20
          intro it22 em23
          have hI24 : I9 lg0 it22 := by rw [em23]; exact i9_u hI (ok9_b (a := 0) (b := 19) rfl (by first | decide | ((try simp only [Int32.lt_iff_toInt_lt, Int32.le_iff_toInt_le, ← Int32.toInt_inj, Int32.toInt_toInt64, tiA, tlA]); omega) | (split <;> (try simp only [Int32.lt_iff_toInt_lt, Int32.le_iff_toInt_le, ← Int32.toInt_inj, Int32.toInt_toInt64, tiA, tlA]) <;> omega))) (by decide) (fun q => absurd q (by decide))
          have hK25 : Kd (fun j => j = 499 ∨ j = 500) (fun k => k = 11) lg0 it0 lg0 it22 := by rw [em23]; exact kd_ur (by decide) (by first | decide | (dsimp only; decide) | omega | (dsimp only; omega)) hKr
          have e26 : (it22 489 11).toInt = (it0 489 11).toInt := by rw [em23]; exact congrArg Int32.toInt (congrFun (u2_row (by decide)) 11)
          have f27 : 0 ≤ (it22 489 11).toInt ∧ (it22 489 11).toInt ≤ 8 := i9_f hI24 (j := 489) (k := 11) rfl
          have hi28 : vp_in (it22 489 11) 8 := vp_of (by first | omega | ((try simp only [Int32.lt_iff_toInt_lt, Int32.le_iff_toInt_le, ← Int32.toInt_inj, Int32.toInt_toInt64, tiA, tlA]); omega) | (split <;> omega)) (by first | omega | ((try simp only [Int32.lt_iff_toInt_lt, Int32.le_iff_toInt_le, ← Int32.toInt_inj, Int32.toInt_toInt64, tiA, tlA]); omega) | (split <;> omega))
          refine ⟨hi28, ?_⟩
          have hz29 := vlt hi28
          intro it30 em31
          have hI32 : I9 lg0 it30 := by rw [em31]; exact i9_u hI24 (ok9_b (a := 0) (b := 9) rfl (by first | decide | ((try simp only [Int32.lt_iff_toInt_lt, Int32.le_iff_toInt_le, ← Int32.toInt_inj, Int32.toInt_toInt64, tiA, tlA]); omega) | (split <;> (try simp only [Int32.lt_iff_toInt_lt, Int32.le_iff_toInt_le, ← Int32.toInt_inj, Int32.toInt_toInt64, tiA, tlA]) <;> omega))) (by decide) (fun q => absurd q (by decide))
          have hK33 : Kd (fun j => j = 499 ∨ j = 500) (fun k => k = 11) lg0 it0 lg0 it30 := by rw [em31]; exact kd_ur (by decide) (by first | decide | (dsimp only; decide) | omega | (dsimp only; omega)) hK25
          have e34 : (it30 489 11).toInt = (it22 489 11).toInt := by rw [em31]; exact congrArg Int32.toInt (congrFun (u2_row (by decide)) 11)
          have f35 : 0 ≤ (it30 489 11).toInt ∧ (it30 489 11).toInt ≤ 8 := i9_f hI32 (j := 489) (k := 11) rfl
          try have f36 : (((it30 489 11) + 1) : Int32).toInt = ((it30 489 11)).toInt + 1 := ad32 (a := ((it30 489 11)).toInt) (b := 1) (rfl) (ti_1) (by omega) (by omega)
          intro it37 em38
          have hI39 : I9 lg0 it37 := by rw [em38]; exact i9_u hI32 (ok9_b (a := 0) (b := 8) rfl (by first | decide | ((try simp only [Int32.lt_iff_toInt_lt, Int32.le_iff_toInt_le, ← Int32.toInt_inj, Int32.toInt_toInt64, tiA, tlA]); omega) | (split <;> (try simp only [Int32.lt_iff_toInt_lt, Int32.le_iff_toInt_le, ← Int32.toInt_inj, Int32.toInt_toInt64, tiA, tlA]) <;> omega))) (by decide) (fun _ => by decide)
          have hK40 : Kd (fun j => j = 499 ∨ j = 500) (fun k => k = 11) lg0 it0 lg0 it37 := by rw [em38]; exact kd_uf (by first | decide | (dsimp only; decide) | omega | (dsimp only; omega)) hK33
          have e42 : (it37 489 11).toInt = (((it30 489 11) + 1) : Int32).toInt := by rw [em38]; exact congrArg Int32.toInt u2_eq
          have f43 : 0 ≤ (it37 489 11).toInt ∧ (it37 489 11).toInt ≤ 8 := i9_f hI39 (j := 489) (k := 11) rfl
          subst hp
          exact ⟨hI39, hK40⟩
        · try simp only [Int32.lt_iff_toInt_lt, Int32.le_iff_toInt_le, ← Int32.toInt_inj, Int32.toInt_toInt64, tiA, tlA] at c39
          subst hp
          exact ⟨hI, hKr⟩
      · try simp only [Int32.lt_iff_toInt_lt, Int32.le_iff_toInt_le, ← Int32.toInt_inj, Int32.toInt_toInt64, tiA, tlA] at c28
        subst hp
        exact ⟨hI, hKr⟩
  · try simp only [Int32.lt_iff_toInt_lt, Int32.le_iff_toInt_le, ← Int32.toInt_inj, Int32.toInt_toInt64, tiA, tlA] at c2
    intro it44 em45
    have hI46 : I9 lg0 it44 := by rw [em45]; exact i9_u hI (ok9_b (a := 0) (b := 8) rfl (by first | decide | ((try simp only [Int32.lt_iff_toInt_lt, Int32.le_iff_toInt_le, ← Int32.toInt_inj, Int32.toInt_toInt64, tiA, tlA]); omega) | (split <;> (try simp only [Int32.lt_iff_toInt_lt, Int32.le_iff_toInt_le, ← Int32.toInt_inj, Int32.toInt_toInt64, tiA, tlA]) <;> omega))) (by decide) (fun _ => by decide)
    have hK47 : Kd (fun j => j = 499 ∨ j = 500) (fun k => k = 11) lg0 it0 lg0 it44 := by rw [em45]; exact kd_uf (by first | decide | (dsimp only; decide) | omega | (dsimp only; omega)) hKr
    subst hp
    exact ⟨hI46, hK47⟩
set_option maxRecDepth 100000 in
theorem s_X9_looked {lg0 : LGt} {it0 : ITt} (hI : I9 lg0 it0) : w_X9_looked  (fun (v : Int32) (lg' : LGt) (it' : ITt) => (I9 lg' it' ∧ Kd (fun j => j = 501 ∨ j = 502 ∨ j = 503 ∨ j = 504 ∨ j = 505 ∨ j = 506 ∨ j = 507 ∨ j = 508 ∨ j = 509 ∨ j = 510 ∨ j = 511 ∨ j = 512) (fun k => k = 18 ∨ k = 19 ∨ k = 20 ∨ k = 28 ∨ k = 29 ∨ k = 30 ∨ k = 31 ∨ k = 32 ∨ k = 33 ∨ k = 34 ∨ k = 35 ∨ k = 36 ∨ k = 37 ∨ k = 38 ∨ k = 39 ∨ k = 40 ∨ k = 41 ∨ k = 42 ∨ k = 43) lg0 it0 lg' it'))  lg0 it0 := by
  have hKr : Kd (fun j => j = 501 ∨ j = 502 ∨ j = 503 ∨ j = 504 ∨ j = 505 ∨ j = 506 ∨ j = 507 ∨ j = 508 ∨ j = 509 ∨ j = 510 ∨ j = 511 ∨ j = 512) (fun k => k = 18 ∨ k = 19 ∨ k = 20 ∨ k = 28 ∨ k = 29 ∨ k = 30 ∨ k = 31 ∨ k = 32 ∨ k = 33 ∨ k = 34 ∨ k = 35 ∨ k = 36 ∨ k = 37 ∨ k = 38 ∨ k = 39 ∨ k = 40 ∨ k = 41 ∨ k = 42 ∨ k = 43) lg0 it0 lg0 it0 := kd_r
  generalize hp : (fun (v : Int32) (lg' : LGt) (it' : ITt) => (I9 lg' it' ∧ Kd (fun j => j = 501 ∨ j = 502 ∨ j = 503 ∨ j = 504 ∨ j = 505 ∨ j = 506 ∨ j = 507 ∨ j = 508 ∨ j = 509 ∨ j = 510 ∨ j = 511 ∨ j = 512) (fun k => k = 18 ∨ k = 19 ∨ k = 20 ∨ k = 28 ∨ k = 29 ∨ k = 30 ∨ k = 31 ∨ k = 32 ∨ k = 33 ∨ k = 34 ∨ k = 35 ∨ k = 36 ∨ k = 37 ∨ k = 38 ∨ k = 39 ∨ k = 40 ∨ k = 41 ∨ k = 42 ∨ k = 43) lg0 it0 lg' it')) = Pz
  unfold w_X9_looked
  have t0 := ti_0
  have t9 := ti_9
  have tm1 := ti_m1
  refine ⟨_, s_X9_findAll   hI , ?_⟩
  intro lg23 it24 hq
  obtain ⟨⟨hI25, hK26⟩, ha29⟩ := hq
  have hK27 : Kd (fun j => j = 501 ∨ j = 502 ∨ j = 503 ∨ j = 504 ∨ j = 505 ∨ j = 506 ∨ j = 507 ∨ j = 508 ∨ j = 509 ∨ j = 510 ∨ j = 511 ∨ j = 512) (fun k => k = 18 ∨ k = 19 ∨ k = 20 ∨ k = 28 ∨ k = 29 ∨ k = 30 ∨ k = 31 ∨ k = 32 ∨ k = 33 ∨ k = 34 ∨ k = 35 ∨ k = 36 ∨ k = 37 ∨ k = 38 ∨ k = 39 ∨ k = 40 ∨ k = 41 ∨ k = 42 ∨ k = 43) lg0 it0 lg23 it24 := kd_t hKr hK26 (fun j hj => by first | omega | exact False.elim hj | (dsimp only at hj ⊢; omega)) (fun j hj => by first | omega | exact False.elim hj | (dsimp only at hj ⊢; omega))
  have PB30 := ha29.1
  have PT31 := ha29.2
  have lp6 : ∀ (n : Nat) (x1 : Int32) (lg : LGt) (it : ITt), I9 lg it → Kd (fun j => j = 501 ∨ j = 502 ∨ j = 503 ∨ j = 504 ∨ j = 505 ∨ j = 506 ∨ j = 507 ∨ j = 508 ∨ j = 509 ∨ j = 510 ∨ j = 511 ∨ j = 512) (fun k => k = 18 ∨ k = 19 ∨ k = 20 ∨ k = 28 ∨ k = 29 ∨ k = 30 ∨ k = 31 ∨ k = 32 ∨ k = 33 ∨ k = 34 ∨ k = 35 ∨ k = 36 ∨ k = 37 ∨ k = 38 ∨ k = 39 ∨ k = 40 ∨ k = 41 ∨ k = 42 ∨ k = 43) lg0 it0 lg it → ((0 ≤ (x1).toInt)) → (9 - (x1).toInt).toNat < n → w_X9_looked_b6  Pz  n x1 lg it := by
    intro n6
    induction n6 with
    | zero => intro x1 lg it _ _ _ hn; exact absurd hn (Nat.not_lt_zero _)
    | succ n6 ih6 =>
      intro x1 lg34 it35 hI32 hK33 hv hn
      unfold w_X9_looked_b6
      have hv6_0 := hv
      have f36 : 0 ≤ (it35 489 11).toInt ∧ (it35 489 11).toInt ≤ 8 := i9_f hI32 (j := 489) (k := 11) rfl
      refine ⟨fun c11 => ?_, fun c11 => ?_⟩
      · try simp only [Int32.lt_iff_toInt_lt, Int32.le_iff_toInt_le, ← Int32.toInt_inj, Int32.toInt_toInt64, tiA, tlA] at c11
        subst hp
        exact ⟨hI32, hK33⟩
      · try simp only [Int32.lt_iff_toInt_lt, Int32.le_iff_toInt_le, ← Int32.toInt_inj, Int32.toInt_toInt64, tiA, tlA] at c11
        have hi37 : vp_in x1 8 := vp_of (by first | omega | ((try simp only [Int32.lt_iff_toInt_lt, Int32.le_iff_toInt_le, ← Int32.toInt_inj, Int32.toInt_toInt64, tiA, tlA]); omega) | (split <;> omega)) (by first | omega | ((try simp only [Int32.lt_iff_toInt_lt, Int32.le_iff_toInt_le, ← Int32.toInt_inj, Int32.toInt_toInt64, tiA, tlA]); omega) | (split <;> omega))
        refine ⟨hi37, ?_⟩
        have hz38 := vlt hi37
        have f39 : 0 ≤ (it35 499 x1.toNatClampNeg).toInt ∧ (it35 499 x1.toNatClampNeg).toInt ≤ 19 := i9_f hI32 (j := 499) (k := x1.toNatClampNeg) rfl
        have hi40 : vp_in x1 8 := vp_of (by first | omega | ((try simp only [Int32.lt_iff_toInt_lt, Int32.le_iff_toInt_le, ← Int32.toInt_inj, Int32.toInt_toInt64, tiA, tlA]); omega) | (split <;> omega)) (by first | omega | ((try simp only [Int32.lt_iff_toInt_lt, Int32.le_iff_toInt_le, ← Int32.toInt_inj, Int32.toInt_toInt64, tiA, tlA]); omega) | (split <;> omega))
        refine ⟨hi40, ?_⟩
        have hz41 := vlt hi40
        have f42 : 0 ≤ (it35 500 x1.toNatClampNeg).toInt ∧ (it35 500 x1.toNatClampNeg).toInt ≤ 9 := i9_f hI32 (j := 500) (k := x1.toNatClampNeg) rfl
        refine ⟨_, s_X9_isStruck  ((it35 499 x1.toNatClampNeg)) ((it35 500 x1.toNatClampNeg)) hI32 (by omega), ?_⟩
        intro v48 lg43 it44 hq
        obtain ⟨⟨hI45, hK46⟩, ha49⟩ := hq
        have hK47 : Kd (fun j => j = 501 ∨ j = 502 ∨ j = 503 ∨ j = 504 ∨ j = 505 ∨ j = 506 ∨ j = 507 ∨ j = 508 ∨ j = 509 ∨ j = 510 ∨ j = 511 ∨ j = 512) (fun k => k = 18 ∨ k = 19 ∨ k = 20 ∨ k = 28 ∨ k = 29 ∨ k = 30 ∨ k = 31 ∨ k = 32 ∨ k = 33 ∨ k = 34 ∨ k = 35 ∨ k = 36 ∨ k = 37 ∨ k = 38 ∨ k = 39 ∨ k = 40 ∨ k = 41 ∨ k = 42 ∨ k = 43) lg0 it0 lg43 it44 := kd_t hK33 hK46 (fun j hj => by first | omega | exact False.elim hj | (dsimp only at hj ⊢; omega)) (fun j hj => by first | omega | exact False.elim hj | (dsimp only at hj ⊢; omega))
        try have e50 : (it44 489 11).toInt = (it35 489 11).toInt := congrArg Int32.toInt (hK46.2 11 (by first | decide | (dsimp only; decide) | omega | (dsimp only; omega))).2
        refine ⟨fun c30 => ?_, fun c30 => ?_⟩
        · try simp only [Int32.lt_iff_toInt_lt, Int32.le_iff_toInt_le, ← Int32.toInt_inj, Int32.toInt_toInt64, tiA, tlA] at c30
          try have f51 : ((x1 + 1) : Int32).toInt = (x1).toInt + 1 := ad32 (a := (x1).toInt) (b := 1) (rfl) (ti_1) (by omega) (by omega)
          exact ih6 ((x1 + 1)) _ _ hI45 hK47 (by first | exact Nx_0 | omega | assumption) (by omega)
        · try simp only [Int32.lt_iff_toInt_lt, Int32.le_iff_toInt_le, ← Int32.toInt_inj, Int32.toInt_toInt64, tiA, tlA] at c30
          subst hp
          exact ⟨hI45, hK47⟩
  have t52 := ti_0
  exact ⟨_, lp6 ((9 - ((0 : Int32)).toInt).toNat + 1) ((0 : Int32)) _ _ hI25 hK27 (by first | exact Nx_0 | omega | assumption) (Nat.lt_succ_self _)⟩
set_option maxRecDepth 100000 in
theorem s_X9_tape (a1 : Int32) (a2 : Int32) (a3 : Int32) {lg0 : LGt} {it0 : ITt} (hI : I9 lg0 it0) : w_X9_tape a1 a2 a3 (fun (v : Int32) (lg' : LGt) (it' : ITt) => (I9 lg' it' ∧ Kd (fun j => j = 518 ∨ j = 519 ∨ j = 520) (fun k => False) lg0 it0 lg' it'))  lg0 it0 := by
  have hb_a1 := And.intro a1.le_toInt a1.toInt_lt
  have hb_a2 := And.intro a2.le_toInt a2.toInt_lt
  have hb_a3 := And.intro a3.le_toInt a3.toInt_lt
  have hKr : Kd (fun j => j = 518 ∨ j = 519 ∨ j = 520) (fun k => False) lg0 it0 lg0 it0 := kd_r
  generalize hp : (fun (v : Int32) (lg' : LGt) (it' : ITt) => (I9 lg' it' ∧ Kd (fun j => j = 518 ∨ j = 519 ∨ j = 520) (fun k => False) lg0 it0 lg' it')) = Pz
  unfold w_X9_tape
  have t0 := ti_0
  have t9 := ti_9
  have tm1 := ti_m1
  refine ⟨fun c4 => ?_, fun c4 => ?_⟩
  · try simp only [Int32.lt_iff_toInt_lt, Int32.le_iff_toInt_le, ← Int32.toInt_inj, Int32.toInt_toInt64, tiA, tlA] at c4
    refine ⟨fun c20 => ?_, fun c20 => ?_⟩
    · try simp only [Int32.lt_iff_toInt_lt, Int32.le_iff_toInt_le, ← Int32.toInt_inj, Int32.toInt_toInt64, tiA, tlA] at c20
      subst hp
      exact ⟨hI, hKr⟩
    · try simp only [Int32.lt_iff_toInt_lt, Int32.le_iff_toInt_le, ← Int32.toInt_inj, Int32.toInt_toInt64, tiA, tlA] at c20
      refine ⟨fun c24 => ?_, fun c24 => ?_⟩
      · try simp only [Int32.lt_iff_toInt_lt, Int32.le_iff_toInt_le, ← Int32.toInt_inj, Int32.toInt_toInt64, tiA, tlA] at c24
        unfold w_X9_tape_b36
        refine ⟨fun c37 => ?_, fun c37 => ?_⟩
        · try simp only [Int32.lt_iff_toInt_lt, Int32.le_iff_toInt_le, ← Int32.toInt_inj, Int32.toInt_toInt64, tiA, tlA] at c37
          unfold w_X9_tape_b47
          have hi29 : vp_in a1 6 := vp_of (by first | omega | ((try simp only [Int32.lt_iff_toInt_lt, Int32.le_iff_toInt_le, ← Int32.toInt_inj, Int32.toInt_toInt64, tiA, tlA]); omega) | (split <;> omega)) (by first | omega | ((try simp only [Int32.lt_iff_toInt_lt, Int32.le_iff_toInt_le, ← Int32.toInt_inj, Int32.toInt_toInt64, tiA, tlA]); omega) | (split <;> omega))
          refine ⟨hi29, ?_⟩
          have hz30 := vlt hi29
          intro it31 em32
          have hI33 : I9 lg0 it31 := by rw [em32]; exact i9_u hI (ok9_n rfl) (by decide) (fun q => absurd q (by decide))
          have hK34 : Kd (fun j => j = 518 ∨ j = 519 ∨ j = 520) (fun k => False) lg0 it0 lg0 it31 := by rw [em32]; exact kd_ur (by decide) (by first | decide | (dsimp only; decide) | omega | (dsimp only; omega)) hKr
          refine ⟨fun c60 => ?_, fun c60 => ?_⟩
          · try simp only [Int32.lt_iff_toInt_lt, Int32.le_iff_toInt_le, ← Int32.toInt_inj, Int32.toInt_toInt64, tiA, tlA] at c60
            have hi35 : vp_in a1 6 := vp_of (by first | omega | ((try simp only [Int32.lt_iff_toInt_lt, Int32.le_iff_toInt_le, ← Int32.toInt_inj, Int32.toInt_toInt64, tiA, tlA]); omega) | (split <;> omega)) (by first | omega | ((try simp only [Int32.lt_iff_toInt_lt, Int32.le_iff_toInt_le, ← Int32.toInt_inj, Int32.toInt_toInt64, tiA, tlA]); omega) | (split <;> omega))
            refine ⟨hi35, ?_⟩
            have hz36 := vlt hi35
            intro it37 em38
            have hI39 : I9 lg0 it37 := by rw [em38]; exact i9_u hI33 (ok9_b (a := 0) (b := 60) rfl (by first | decide | ((try simp only [Int32.lt_iff_toInt_lt, Int32.le_iff_toInt_le, ← Int32.toInt_inj, Int32.toInt_toInt64, tiA, tlA]); omega) | (split <;> (try simp only [Int32.lt_iff_toInt_lt, Int32.le_iff_toInt_le, ← Int32.toInt_inj, Int32.toInt_toInt64, tiA, tlA]) <;> omega))) (by decide) (fun q => absurd q (by decide))
            have hK40 : Kd (fun j => j = 518 ∨ j = 519 ∨ j = 520) (fun k => False) lg0 it0 lg0 it37 := by rw [em38]; exact kd_ur (by decide) (by first | decide | (dsimp only; decide) | omega | (dsimp only; omega)) hK34
            have lp72 : ∀ (n : Nat) (x4 : Int32) (lg : LGt) (it : ITt), I9 lg it → Kd (fun j => j = 518 ∨ j = 519 ∨ j = 520) (fun k => False) lg0 it0 lg it → ((0 ≤ (x4).toInt)) → (61 - (x4).toInt).toNat < n → w_X9_tape_b72 a1 a2 a3 Pz  n x4 lg it := by
              intro n72
              induction n72 with
              | zero => intro x4 lg it _ _ _ hn; exact absurd hn (Nat.not_lt_zero _)
              | succ n72 ih72 =>
                intro x4 lg43 it44 hI41 hK42 hv hn
                unfold w_X9_tape_b72
                have hv72_0 := hv
                refine ⟨fun c76 => ?_, fun c76 => ?_⟩
                · try simp only [Int32.lt_iff_toInt_lt, Int32.le_iff_toInt_le, ← Int32.toInt_inj, Int32.toInt_toInt64, tiA, tlA] at c76
                  subst hp
                  exact ⟨hI41, hK42⟩
                · try simp only [Int32.lt_iff_toInt_lt, Int32.le_iff_toInt_le, ← Int32.toInt_inj, Int32.toInt_toInt64, tiA, tlA] at c76
                  try have f45 : ((60 * a1) : Int32).toInt = 60 * (a1).toInt := ml32 (a := 60) (b := (a1).toInt) (ti_60) (rfl) (by omega) (by omega)
                  try have f46 : (((60 * a1) + x4) : Int32).toInt = ((60 * a1)).toInt + (x4).toInt := ad32 (a := ((60 * a1)).toInt) (b := (x4).toInt) (rfl) (rfl) (by omega) (by omega)
                  have hi47 : vp_in ((60 * a1) + x4) 360 := vp_of (by first | omega | ((try simp only [Int32.lt_iff_toInt_lt, Int32.le_iff_toInt_le, ← Int32.toInt_inj, Int32.toInt_toInt64, tiA, tlA]); omega) | (split <;> omega)) (by first | omega | ((try simp only [Int32.lt_iff_toInt_lt, Int32.le_iff_toInt_le, ← Int32.toInt_inj, Int32.toInt_toInt64, tiA, tlA]); omega) | (split <;> omega))
                  refine ⟨hi47, ?_⟩
                  have hz48 := vlt hi47
                  intro lg49 em50
                  have hI51 : I9 lg49 it44 := by rw [em50]; exact i9_l hI41 (by decide) (by decide) (by decide)
                  have hK52 : Kd (fun j => j = 518 ∨ j = 519 ∨ j = 520) (fun k => False) lg0 it0 lg49 it44 := by rw [em50]; exact kd_lr (by decide) (by first | decide | (dsimp only; decide) | omega | (dsimp only; omega)) hK42
                  try have f53 : ((x4 + 1) : Int32).toInt = (x4).toInt + 1 := ad32 (a := (x4).toInt) (b := 1) (rfl) (ti_1) (by omega) (by omega)
                  exact ih72 ((x4 + 1)) _ _ hI51 hK52 (by first | exact Nx_0 | omega | assumption) (by omega)
            have t54 := ti_0
            exact ⟨_, lp72 ((61 - ((0 : Int32)).toInt).toNat + 1) ((0 : Int32)) _ _ hI39 hK40 (by first | exact Nx_0 | omega | assumption) (Nat.lt_succ_self _)⟩
          · try simp only [Int32.lt_iff_toInt_lt, Int32.le_iff_toInt_le, ← Int32.toInt_inj, Int32.toInt_toInt64, tiA, tlA] at c60
            have hi55 : vp_in a1 6 := vp_of (by first | omega | ((try simp only [Int32.lt_iff_toInt_lt, Int32.le_iff_toInt_le, ← Int32.toInt_inj, Int32.toInt_toInt64, tiA, tlA]); omega) | (split <;> omega)) (by first | omega | ((try simp only [Int32.lt_iff_toInt_lt, Int32.le_iff_toInt_le, ← Int32.toInt_inj, Int32.toInt_toInt64, tiA, tlA]); omega) | (split <;> omega))
            refine ⟨hi55, ?_⟩
            have hz56 := vlt hi55
            intro it57 em58
            have hI59 : I9 lg0 it57 := by rw [em58]; exact i9_u hI33 (ok9_b (a := 0) (b := 60) rfl (by first | decide | ((try simp only [Int32.lt_iff_toInt_lt, Int32.le_iff_toInt_le, ← Int32.toInt_inj, Int32.toInt_toInt64, tiA, tlA]); omega) | (split <;> (try simp only [Int32.lt_iff_toInt_lt, Int32.le_iff_toInt_le, ← Int32.toInt_inj, Int32.toInt_toInt64, tiA, tlA]) <;> omega))) (by decide) (fun q => absurd q (by decide))
            have hK60 : Kd (fun j => j = 518 ∨ j = 519 ∨ j = 520) (fun k => False) lg0 it0 lg0 it57 := by rw [em58]; exact kd_ur (by decide) (by first | decide | (dsimp only; decide) | omega | (dsimp only; omega)) hK34
            have lp72 : ∀ (n : Nat) (x4 : Int32) (lg : LGt) (it : ITt), I9 lg it → Kd (fun j => j = 518 ∨ j = 519 ∨ j = 520) (fun k => False) lg0 it0 lg it → ((0 ≤ (x4).toInt)) → (61 - (x4).toInt).toNat < n → w_X9_tape_b72 a1 a2 a3 Pz  n x4 lg it := by
              intro n72
              induction n72 with
              | zero => intro x4 lg it _ _ _ hn; exact absurd hn (Nat.not_lt_zero _)
              | succ n72 ih72 =>
                intro x4 lg63 it64 hI61 hK62 hv hn
                unfold w_X9_tape_b72
                have hv72_0 := hv
                refine ⟨fun c76 => ?_, fun c76 => ?_⟩
                · try simp only [Int32.lt_iff_toInt_lt, Int32.le_iff_toInt_le, ← Int32.toInt_inj, Int32.toInt_toInt64, tiA, tlA] at c76
                  subst hp
                  exact ⟨hI61, hK62⟩
                · try simp only [Int32.lt_iff_toInt_lt, Int32.le_iff_toInt_le, ← Int32.toInt_inj, Int32.toInt_toInt64, tiA, tlA] at c76
                  try have f65 : ((60 * a1) : Int32).toInt = 60 * (a1).toInt := ml32 (a := 60) (b := (a1).toInt) (ti_60) (rfl) (by omega) (by omega)
                  try have f66 : (((60 * a1) + x4) : Int32).toInt = ((60 * a1)).toInt + (x4).toInt := ad32 (a := ((60 * a1)).toInt) (b := (x4).toInt) (rfl) (rfl) (by omega) (by omega)
                  have hi67 : vp_in ((60 * a1) + x4) 360 := vp_of (by first | omega | ((try simp only [Int32.lt_iff_toInt_lt, Int32.le_iff_toInt_le, ← Int32.toInt_inj, Int32.toInt_toInt64, tiA, tlA]); omega) | (split <;> omega)) (by first | omega | ((try simp only [Int32.lt_iff_toInt_lt, Int32.le_iff_toInt_le, ← Int32.toInt_inj, Int32.toInt_toInt64, tiA, tlA]); omega) | (split <;> omega))
                  refine ⟨hi67, ?_⟩
                  have hz68 := vlt hi67
                  intro lg69 em70
                  have hI71 : I9 lg69 it64 := by rw [em70]; exact i9_l hI61 (by decide) (by decide) (by decide)
                  have hK72 : Kd (fun j => j = 518 ∨ j = 519 ∨ j = 520) (fun k => False) lg0 it0 lg69 it64 := by rw [em70]; exact kd_lr (by decide) (by first | decide | (dsimp only; decide) | omega | (dsimp only; omega)) hK62
                  try have f73 : ((x4 + 1) : Int32).toInt = (x4).toInt + 1 := ad32 (a := (x4).toInt) (b := 1) (rfl) (ti_1) (by omega) (by omega)
                  exact ih72 ((x4 + 1)) _ _ hI71 hK72 (by first | exact Nx_0 | omega | assumption) (by omega)
            have t74 := ti_0
            exact ⟨_, lp72 ((61 - ((0 : Int32)).toInt).toNat + 1) ((0 : Int32)) _ _ hI59 hK60 (by first | exact Nx_0 | omega | assumption) (Nat.lt_succ_self _)⟩
        · try simp only [Int32.lt_iff_toInt_lt, Int32.le_iff_toInt_le, ← Int32.toInt_inj, Int32.toInt_toInt64, tiA, tlA] at c37
          refine ⟨fun c41 => ?_, fun c41 => ?_⟩
          · try simp only [Int32.lt_iff_toInt_lt, Int32.le_iff_toInt_le, ← Int32.toInt_inj, Int32.toInt_toInt64, tiA, tlA] at c41
            unfold w_X9_tape_b47
            have hi75 : vp_in a1 6 := vp_of (by first | omega | ((try simp only [Int32.lt_iff_toInt_lt, Int32.le_iff_toInt_le, ← Int32.toInt_inj, Int32.toInt_toInt64, tiA, tlA]); omega) | (split <;> omega)) (by first | omega | ((try simp only [Int32.lt_iff_toInt_lt, Int32.le_iff_toInt_le, ← Int32.toInt_inj, Int32.toInt_toInt64, tiA, tlA]); omega) | (split <;> omega))
            refine ⟨hi75, ?_⟩
            have hz76 := vlt hi75
            intro it77 em78
            have hI79 : I9 lg0 it77 := by rw [em78]; exact i9_u hI (ok9_n rfl) (by decide) (fun q => absurd q (by decide))
            have hK80 : Kd (fun j => j = 518 ∨ j = 519 ∨ j = 520) (fun k => False) lg0 it0 lg0 it77 := by rw [em78]; exact kd_ur (by decide) (by first | decide | (dsimp only; decide) | omega | (dsimp only; omega)) hKr
            refine ⟨fun c60 => ?_, fun c60 => ?_⟩
            · try simp only [Int32.lt_iff_toInt_lt, Int32.le_iff_toInt_le, ← Int32.toInt_inj, Int32.toInt_toInt64, tiA, tlA] at c60
              have hi81 : vp_in a1 6 := vp_of (by first | omega | ((try simp only [Int32.lt_iff_toInt_lt, Int32.le_iff_toInt_le, ← Int32.toInt_inj, Int32.toInt_toInt64, tiA, tlA]); omega) | (split <;> omega)) (by first | omega | ((try simp only [Int32.lt_iff_toInt_lt, Int32.le_iff_toInt_le, ← Int32.toInt_inj, Int32.toInt_toInt64, tiA, tlA]); omega) | (split <;> omega))
              refine ⟨hi81, ?_⟩
              have hz82 := vlt hi81
              intro it83 em84
              have hI85 : I9 lg0 it83 := by rw [em84]; exact i9_u hI79 (ok9_b (a := 0) (b := 60) rfl (by first | decide | ((try simp only [Int32.lt_iff_toInt_lt, Int32.le_iff_toInt_le, ← Int32.toInt_inj, Int32.toInt_toInt64, tiA, tlA]); omega) | (split <;> (try simp only [Int32.lt_iff_toInt_lt, Int32.le_iff_toInt_le, ← Int32.toInt_inj, Int32.toInt_toInt64, tiA, tlA]) <;> omega))) (by decide) (fun q => absurd q (by decide))
              have hK86 : Kd (fun j => j = 518 ∨ j = 519 ∨ j = 520) (fun k => False) lg0 it0 lg0 it83 := by rw [em84]; exact kd_ur (by decide) (by first | decide | (dsimp only; decide) | omega | (dsimp only; omega)) hK80
              have lp72 : ∀ (n : Nat) (x4 : Int32) (lg : LGt) (it : ITt), I9 lg it → Kd (fun j => j = 518 ∨ j = 519 ∨ j = 520) (fun k => False) lg0 it0 lg it → ((0 ≤ (x4).toInt)) → (61 - (x4).toInt).toNat < n → w_X9_tape_b72 a1 a2 a3 Pz  n x4 lg it := by
                intro n72
                induction n72 with
                | zero => intro x4 lg it _ _ _ hn; exact absurd hn (Nat.not_lt_zero _)
                | succ n72 ih72 =>
                  intro x4 lg89 it90 hI87 hK88 hv hn
                  unfold w_X9_tape_b72
                  have hv72_0 := hv
                  refine ⟨fun c76 => ?_, fun c76 => ?_⟩
                  · try simp only [Int32.lt_iff_toInt_lt, Int32.le_iff_toInt_le, ← Int32.toInt_inj, Int32.toInt_toInt64, tiA, tlA] at c76
                    subst hp
                    exact ⟨hI87, hK88⟩
                  · try simp only [Int32.lt_iff_toInt_lt, Int32.le_iff_toInt_le, ← Int32.toInt_inj, Int32.toInt_toInt64, tiA, tlA] at c76
                    try have f91 : ((60 * a1) : Int32).toInt = 60 * (a1).toInt := ml32 (a := 60) (b := (a1).toInt) (ti_60) (rfl) (by omega) (by omega)
                    try have f92 : (((60 * a1) + x4) : Int32).toInt = ((60 * a1)).toInt + (x4).toInt := ad32 (a := ((60 * a1)).toInt) (b := (x4).toInt) (rfl) (rfl) (by omega) (by omega)
                    have hi93 : vp_in ((60 * a1) + x4) 360 := vp_of (by first | omega | ((try simp only [Int32.lt_iff_toInt_lt, Int32.le_iff_toInt_le, ← Int32.toInt_inj, Int32.toInt_toInt64, tiA, tlA]); omega) | (split <;> omega)) (by first | omega | ((try simp only [Int32.lt_iff_toInt_lt, Int32.le_iff_toInt_le, ← Int32.toInt_inj, Int32.toInt_toInt64, tiA, tlA]); omega) | (split <;> omega))
                    refine ⟨hi93, ?_⟩
                    have hz94 := vlt hi93
                    intro lg95 em96
                    have hI97 : I9 lg95 it90 := by rw [em96]; exact i9_l hI87 (by decide) (by decide) (by decide)
                    have hK98 : Kd (fun j => j = 518 ∨ j = 519 ∨ j = 520) (fun k => False) lg0 it0 lg95 it90 := by rw [em96]; exact kd_lr (by decide) (by first | decide | (dsimp only; decide) | omega | (dsimp only; omega)) hK88
                    try have f99 : ((x4 + 1) : Int32).toInt = (x4).toInt + 1 := ad32 (a := (x4).toInt) (b := 1) (rfl) (ti_1) (by omega) (by omega)
                    exact ih72 ((x4 + 1)) _ _ hI97 hK98 (by first | exact Nx_0 | omega | assumption) (by omega)
              have t100 := ti_0
              exact ⟨_, lp72 ((61 - ((0 : Int32)).toInt).toNat + 1) ((0 : Int32)) _ _ hI85 hK86 (by first | exact Nx_0 | omega | assumption) (Nat.lt_succ_self _)⟩
            · try simp only [Int32.lt_iff_toInt_lt, Int32.le_iff_toInt_le, ← Int32.toInt_inj, Int32.toInt_toInt64, tiA, tlA] at c60
              have hi101 : vp_in a1 6 := vp_of (by first | omega | ((try simp only [Int32.lt_iff_toInt_lt, Int32.le_iff_toInt_le, ← Int32.toInt_inj, Int32.toInt_toInt64, tiA, tlA]); omega) | (split <;> omega)) (by first | omega | ((try simp only [Int32.lt_iff_toInt_lt, Int32.le_iff_toInt_le, ← Int32.toInt_inj, Int32.toInt_toInt64, tiA, tlA]); omega) | (split <;> omega))
              refine ⟨hi101, ?_⟩
              have hz102 := vlt hi101
              intro it103 em104
              have hI105 : I9 lg0 it103 := by rw [em104]; exact i9_u hI79 (ok9_b (a := 0) (b := 60) rfl (by first | decide | ((try simp only [Int32.lt_iff_toInt_lt, Int32.le_iff_toInt_le, ← Int32.toInt_inj, Int32.toInt_toInt64, tiA, tlA]); omega) | (split <;> (try simp only [Int32.lt_iff_toInt_lt, Int32.le_iff_toInt_le, ← Int32.toInt_inj, Int32.toInt_toInt64, tiA, tlA]) <;> omega))) (by decide) (fun q => absurd q (by decide))
              have hK106 : Kd (fun j => j = 518 ∨ j = 519 ∨ j = 520) (fun k => False) lg0 it0 lg0 it103 := by rw [em104]; exact kd_ur (by decide) (by first | decide | (dsimp only; decide) | omega | (dsimp only; omega)) hK80
              have lp72 : ∀ (n : Nat) (x4 : Int32) (lg : LGt) (it : ITt), I9 lg it → Kd (fun j => j = 518 ∨ j = 519 ∨ j = 520) (fun k => False) lg0 it0 lg it → ((0 ≤ (x4).toInt)) → (61 - (x4).toInt).toNat < n → w_X9_tape_b72 a1 a2 a3 Pz  n x4 lg it := by
                intro n72
                induction n72 with
                | zero => intro x4 lg it _ _ _ hn; exact absurd hn (Nat.not_lt_zero _)
                | succ n72 ih72 =>
                  intro x4 lg109 it110 hI107 hK108 hv hn
                  unfold w_X9_tape_b72
                  have hv72_0 := hv
                  refine ⟨fun c76 => ?_, fun c76 => ?_⟩
                  · try simp only [Int32.lt_iff_toInt_lt, Int32.le_iff_toInt_le, ← Int32.toInt_inj, Int32.toInt_toInt64, tiA, tlA] at c76
                    subst hp
                    exact ⟨hI107, hK108⟩
                  · try simp only [Int32.lt_iff_toInt_lt, Int32.le_iff_toInt_le, ← Int32.toInt_inj, Int32.toInt_toInt64, tiA, tlA] at c76
                    try have f111 : ((60 * a1) : Int32).toInt = 60 * (a1).toInt := ml32 (a := 60) (b := (a1).toInt) (ti_60) (rfl) (by omega) (by omega)
                    try have f112 : (((60 * a1) + x4) : Int32).toInt = ((60 * a1)).toInt + (x4).toInt := ad32 (a := ((60 * a1)).toInt) (b := (x4).toInt) (rfl) (rfl) (by omega) (by omega)
                    have hi113 : vp_in ((60 * a1) + x4) 360 := vp_of (by first | omega | ((try simp only [Int32.lt_iff_toInt_lt, Int32.le_iff_toInt_le, ← Int32.toInt_inj, Int32.toInt_toInt64, tiA, tlA]); omega) | (split <;> omega)) (by first | omega | ((try simp only [Int32.lt_iff_toInt_lt, Int32.le_iff_toInt_le, ← Int32.toInt_inj, Int32.toInt_toInt64, tiA, tlA]); omega) | (split <;> omega))
                    refine ⟨hi113, ?_⟩
                    have hz114 := vlt hi113
                    intro lg115 em116
                    have hI117 : I9 lg115 it110 := by rw [em116]; exact i9_l hI107 (by decide) (by decide) (by decide)
                    have hK118 : Kd (fun j => j = 518 ∨ j = 519 ∨ j = 520) (fun k => False) lg0 it0 lg115 it110 := by rw [em116]; exact kd_lr (by decide) (by first | decide | (dsimp only; decide) | omega | (dsimp only; omega)) hK108
                    try have f119 : ((x4 + 1) : Int32).toInt = (x4).toInt + 1 := ad32 (a := (x4).toInt) (b := 1) (rfl) (ti_1) (by omega) (by omega)
                    exact ih72 ((x4 + 1)) _ _ hI117 hK118 (by first | exact Nx_0 | omega | assumption) (by omega)
              have t120 := ti_0
              exact ⟨_, lp72 ((61 - ((0 : Int32)).toInt).toNat + 1) ((0 : Int32)) _ _ hI105 hK106 (by first | exact Nx_0 | omega | assumption) (Nat.lt_succ_self _)⟩
          · try simp only [Int32.lt_iff_toInt_lt, Int32.le_iff_toInt_le, ← Int32.toInt_inj, Int32.toInt_toInt64, tiA, tlA] at c41
            subst hp
            exact ⟨hI, hKr⟩
      · try simp only [Int32.lt_iff_toInt_lt, Int32.le_iff_toInt_le, ← Int32.toInt_inj, Int32.toInt_toInt64, tiA, tlA] at c24
        refine ⟨fun c30 => ?_, fun c30 => ?_⟩
        · try simp only [Int32.lt_iff_toInt_lt, Int32.le_iff_toInt_le, ← Int32.toInt_inj, Int32.toInt_toInt64, tiA, tlA] at c30
          unfold w_X9_tape_b36
          refine ⟨fun c37 => ?_, fun c37 => ?_⟩
          · try simp only [Int32.lt_iff_toInt_lt, Int32.le_iff_toInt_le, ← Int32.toInt_inj, Int32.toInt_toInt64, tiA, tlA] at c37
            unfold w_X9_tape_b47
            have hi121 : vp_in a1 6 := vp_of (by first | omega | ((try simp only [Int32.lt_iff_toInt_lt, Int32.le_iff_toInt_le, ← Int32.toInt_inj, Int32.toInt_toInt64, tiA, tlA]); omega) | (split <;> omega)) (by first | omega | ((try simp only [Int32.lt_iff_toInt_lt, Int32.le_iff_toInt_le, ← Int32.toInt_inj, Int32.toInt_toInt64, tiA, tlA]); omega) | (split <;> omega))
            refine ⟨hi121, ?_⟩
            have hz122 := vlt hi121
            intro it123 em124
            have hI125 : I9 lg0 it123 := by rw [em124]; exact i9_u hI (ok9_n rfl) (by decide) (fun q => absurd q (by decide))
            have hK126 : Kd (fun j => j = 518 ∨ j = 519 ∨ j = 520) (fun k => False) lg0 it0 lg0 it123 := by rw [em124]; exact kd_ur (by decide) (by first | decide | (dsimp only; decide) | omega | (dsimp only; omega)) hKr
            refine ⟨fun c60 => ?_, fun c60 => ?_⟩
            · try simp only [Int32.lt_iff_toInt_lt, Int32.le_iff_toInt_le, ← Int32.toInt_inj, Int32.toInt_toInt64, tiA, tlA] at c60
              have hi127 : vp_in a1 6 := vp_of (by first | omega | ((try simp only [Int32.lt_iff_toInt_lt, Int32.le_iff_toInt_le, ← Int32.toInt_inj, Int32.toInt_toInt64, tiA, tlA]); omega) | (split <;> omega)) (by first | omega | ((try simp only [Int32.lt_iff_toInt_lt, Int32.le_iff_toInt_le, ← Int32.toInt_inj, Int32.toInt_toInt64, tiA, tlA]); omega) | (split <;> omega))
              refine ⟨hi127, ?_⟩
              have hz128 := vlt hi127
              intro it129 em130
              have hI131 : I9 lg0 it129 := by rw [em130]; exact i9_u hI125 (ok9_b (a := 0) (b := 60) rfl (by first | decide | ((try simp only [Int32.lt_iff_toInt_lt, Int32.le_iff_toInt_le, ← Int32.toInt_inj, Int32.toInt_toInt64, tiA, tlA]); omega) | (split <;> (try simp only [Int32.lt_iff_toInt_lt, Int32.le_iff_toInt_le, ← Int32.toInt_inj, Int32.toInt_toInt64, tiA, tlA]) <;> omega))) (by decide) (fun q => absurd q (by decide))
              have hK132 : Kd (fun j => j = 518 ∨ j = 519 ∨ j = 520) (fun k => False) lg0 it0 lg0 it129 := by rw [em130]; exact kd_ur (by decide) (by first | decide | (dsimp only; decide) | omega | (dsimp only; omega)) hK126
              have lp72 : ∀ (n : Nat) (x4 : Int32) (lg : LGt) (it : ITt), I9 lg it → Kd (fun j => j = 518 ∨ j = 519 ∨ j = 520) (fun k => False) lg0 it0 lg it → ((0 ≤ (x4).toInt)) → (61 - (x4).toInt).toNat < n → w_X9_tape_b72 a1 a2 a3 Pz  n x4 lg it := by
                intro n72
                induction n72 with
                | zero => intro x4 lg it _ _ _ hn; exact absurd hn (Nat.not_lt_zero _)
                | succ n72 ih72 =>
                  intro x4 lg135 it136 hI133 hK134 hv hn
                  unfold w_X9_tape_b72
                  have hv72_0 := hv
                  refine ⟨fun c76 => ?_, fun c76 => ?_⟩
                  · try simp only [Int32.lt_iff_toInt_lt, Int32.le_iff_toInt_le, ← Int32.toInt_inj, Int32.toInt_toInt64, tiA, tlA] at c76
                    subst hp
                    exact ⟨hI133, hK134⟩
                  · try simp only [Int32.lt_iff_toInt_lt, Int32.le_iff_toInt_le, ← Int32.toInt_inj, Int32.toInt_toInt64, tiA, tlA] at c76
                    try have f137 : ((60 * a1) : Int32).toInt = 60 * (a1).toInt := ml32 (a := 60) (b := (a1).toInt) (ti_60) (rfl) (by omega) (by omega)
                    try have f138 : (((60 * a1) + x4) : Int32).toInt = ((60 * a1)).toInt + (x4).toInt := ad32 (a := ((60 * a1)).toInt) (b := (x4).toInt) (rfl) (rfl) (by omega) (by omega)
                    have hi139 : vp_in ((60 * a1) + x4) 360 := vp_of (by first | omega | ((try simp only [Int32.lt_iff_toInt_lt, Int32.le_iff_toInt_le, ← Int32.toInt_inj, Int32.toInt_toInt64, tiA, tlA]); omega) | (split <;> omega)) (by first | omega | ((try simp only [Int32.lt_iff_toInt_lt, Int32.le_iff_toInt_le, ← Int32.toInt_inj, Int32.toInt_toInt64, tiA, tlA]); omega) | (split <;> omega))
                    refine ⟨hi139, ?_⟩
                    have hz140 := vlt hi139
                    intro lg141 em142
                    have hI143 : I9 lg141 it136 := by rw [em142]; exact i9_l hI133 (by decide) (by decide) (by decide)
                    have hK144 : Kd (fun j => j = 518 ∨ j = 519 ∨ j = 520) (fun k => False) lg0 it0 lg141 it136 := by rw [em142]; exact kd_lr (by decide) (by first | decide | (dsimp only; decide) | omega | (dsimp only; omega)) hK134
                    try have f145 : ((x4 + 1) : Int32).toInt = (x4).toInt + 1 := ad32 (a := (x4).toInt) (b := 1) (rfl) (ti_1) (by omega) (by omega)
                    exact ih72 ((x4 + 1)) _ _ hI143 hK144 (by first | exact Nx_0 | omega | assumption) (by omega)
              have t146 := ti_0
              exact ⟨_, lp72 ((61 - ((0 : Int32)).toInt).toNat + 1) ((0 : Int32)) _ _ hI131 hK132 (by first | exact Nx_0 | omega | assumption) (Nat.lt_succ_self _)⟩
            · try simp only [Int32.lt_iff_toInt_lt, Int32.le_iff_toInt_le, ← Int32.toInt_inj, Int32.toInt_toInt64, tiA, tlA] at c60
              have hi147 : vp_in a1 6 := vp_of (by first | omega | ((try simp only [Int32.lt_iff_toInt_lt, Int32.le_iff_toInt_le, ← Int32.toInt_inj, Int32.toInt_toInt64, tiA, tlA]); omega) | (split <;> omega)) (by first | omega | ((try simp only [Int32.lt_iff_toInt_lt, Int32.le_iff_toInt_le, ← Int32.toInt_inj, Int32.toInt_toInt64, tiA, tlA]); omega) | (split <;> omega))
              refine ⟨hi147, ?_⟩
              have hz148 := vlt hi147
              intro it149 em150
              have hI151 : I9 lg0 it149 := by rw [em150]; exact i9_u hI125 (ok9_b (a := 0) (b := 60) rfl (by first | decide | ((try simp only [Int32.lt_iff_toInt_lt, Int32.le_iff_toInt_le, ← Int32.toInt_inj, Int32.toInt_toInt64, tiA, tlA]); omega) | (split <;> (try simp only [Int32.lt_iff_toInt_lt, Int32.le_iff_toInt_le, ← Int32.toInt_inj, Int32.toInt_toInt64, tiA, tlA]) <;> omega))) (by decide) (fun q => absurd q (by decide))
              have hK152 : Kd (fun j => j = 518 ∨ j = 519 ∨ j = 520) (fun k => False) lg0 it0 lg0 it149 := by rw [em150]; exact kd_ur (by decide) (by first | decide | (dsimp only; decide) | omega | (dsimp only; omega)) hK126
              have lp72 : ∀ (n : Nat) (x4 : Int32) (lg : LGt) (it : ITt), I9 lg it → Kd (fun j => j = 518 ∨ j = 519 ∨ j = 520) (fun k => False) lg0 it0 lg it → ((0 ≤ (x4).toInt)) → (61 - (x4).toInt).toNat < n → w_X9_tape_b72 a1 a2 a3 Pz  n x4 lg it := by
                intro n72
                induction n72 with
                | zero => intro x4 lg it _ _ _ hn; exact absurd hn (Nat.not_lt_zero _)
                | succ n72 ih72 =>
                  intro x4 lg155 it156 hI153 hK154 hv hn
                  unfold w_X9_tape_b72
                  have hv72_0 := hv
                  refine ⟨fun c76 => ?_, fun c76 => ?_⟩
                  · try simp only [Int32.lt_iff_toInt_lt, Int32.le_iff_toInt_le, ← Int32.toInt_inj, Int32.toInt_toInt64, tiA, tlA] at c76
                    subst hp
                    exact ⟨hI153, hK154⟩
                  · try simp only [Int32.lt_iff_toInt_lt, Int32.le_iff_toInt_le, ← Int32.toInt_inj, Int32.toInt_toInt64, tiA, tlA] at c76
                    try have f157 : ((60 * a1) : Int32).toInt = 60 * (a1).toInt := ml32 (a := 60) (b := (a1).toInt) (ti_60) (rfl) (by omega) (by omega)
                    try have f158 : (((60 * a1) + x4) : Int32).toInt = ((60 * a1)).toInt + (x4).toInt := ad32 (a := ((60 * a1)).toInt) (b := (x4).toInt) (rfl) (rfl) (by omega) (by omega)
                    have hi159 : vp_in ((60 * a1) + x4) 360 := vp_of (by first | omega | ((try simp only [Int32.lt_iff_toInt_lt, Int32.le_iff_toInt_le, ← Int32.toInt_inj, Int32.toInt_toInt64, tiA, tlA]); omega) | (split <;> omega)) (by first | omega | ((try simp only [Int32.lt_iff_toInt_lt, Int32.le_iff_toInt_le, ← Int32.toInt_inj, Int32.toInt_toInt64, tiA, tlA]); omega) | (split <;> omega))
                    refine ⟨hi159, ?_⟩
                    have hz160 := vlt hi159
                    intro lg161 em162
                    have hI163 : I9 lg161 it156 := by rw [em162]; exact i9_l hI153 (by decide) (by decide) (by decide)
                    have hK164 : Kd (fun j => j = 518 ∨ j = 519 ∨ j = 520) (fun k => False) lg0 it0 lg161 it156 := by rw [em162]; exact kd_lr (by decide) (by first | decide | (dsimp only; decide) | omega | (dsimp only; omega)) hK154
                    try have f165 : ((x4 + 1) : Int32).toInt = (x4).toInt + 1 := ad32 (a := (x4).toInt) (b := 1) (rfl) (ti_1) (by omega) (by omega)
                    exact ih72 ((x4 + 1)) _ _ hI163 hK164 (by first | exact Nx_0 | omega | assumption) (by omega)
              have t166 := ti_0
              exact ⟨_, lp72 ((61 - ((0 : Int32)).toInt).toNat + 1) ((0 : Int32)) _ _ hI151 hK152 (by first | exact Nx_0 | omega | assumption) (Nat.lt_succ_self _)⟩
          · try simp only [Int32.lt_iff_toInt_lt, Int32.le_iff_toInt_le, ← Int32.toInt_inj, Int32.toInt_toInt64, tiA, tlA] at c37
            refine ⟨fun c41 => ?_, fun c41 => ?_⟩
            · try simp only [Int32.lt_iff_toInt_lt, Int32.le_iff_toInt_le, ← Int32.toInt_inj, Int32.toInt_toInt64, tiA, tlA] at c41
              unfold w_X9_tape_b47
              have hi167 : vp_in a1 6 := vp_of (by first | omega | ((try simp only [Int32.lt_iff_toInt_lt, Int32.le_iff_toInt_le, ← Int32.toInt_inj, Int32.toInt_toInt64, tiA, tlA]); omega) | (split <;> omega)) (by first | omega | ((try simp only [Int32.lt_iff_toInt_lt, Int32.le_iff_toInt_le, ← Int32.toInt_inj, Int32.toInt_toInt64, tiA, tlA]); omega) | (split <;> omega))
              refine ⟨hi167, ?_⟩
              have hz168 := vlt hi167
              intro it169 em170
              have hI171 : I9 lg0 it169 := by rw [em170]; exact i9_u hI (ok9_n rfl) (by decide) (fun q => absurd q (by decide))
              have hK172 : Kd (fun j => j = 518 ∨ j = 519 ∨ j = 520) (fun k => False) lg0 it0 lg0 it169 := by rw [em170]; exact kd_ur (by decide) (by first | decide | (dsimp only; decide) | omega | (dsimp only; omega)) hKr
              refine ⟨fun c60 => ?_, fun c60 => ?_⟩
              · try simp only [Int32.lt_iff_toInt_lt, Int32.le_iff_toInt_le, ← Int32.toInt_inj, Int32.toInt_toInt64, tiA, tlA] at c60
                have hi173 : vp_in a1 6 := vp_of (by first | omega | ((try simp only [Int32.lt_iff_toInt_lt, Int32.le_iff_toInt_le, ← Int32.toInt_inj, Int32.toInt_toInt64, tiA, tlA]); omega) | (split <;> omega)) (by first | omega | ((try simp only [Int32.lt_iff_toInt_lt, Int32.le_iff_toInt_le, ← Int32.toInt_inj, Int32.toInt_toInt64, tiA, tlA]); omega) | (split <;> omega))
                refine ⟨hi173, ?_⟩
                have hz174 := vlt hi173
                intro it175 em176
                have hI177 : I9 lg0 it175 := by rw [em176]; exact i9_u hI171 (ok9_b (a := 0) (b := 60) rfl (by first | decide | ((try simp only [Int32.lt_iff_toInt_lt, Int32.le_iff_toInt_le, ← Int32.toInt_inj, Int32.toInt_toInt64, tiA, tlA]); omega) | (split <;> (try simp only [Int32.lt_iff_toInt_lt, Int32.le_iff_toInt_le, ← Int32.toInt_inj, Int32.toInt_toInt64, tiA, tlA]) <;> omega))) (by decide) (fun q => absurd q (by decide))
                have hK178 : Kd (fun j => j = 518 ∨ j = 519 ∨ j = 520) (fun k => False) lg0 it0 lg0 it175 := by rw [em176]; exact kd_ur (by decide) (by first | decide | (dsimp only; decide) | omega | (dsimp only; omega)) hK172
                have lp72 : ∀ (n : Nat) (x4 : Int32) (lg : LGt) (it : ITt), I9 lg it → Kd (fun j => j = 518 ∨ j = 519 ∨ j = 520) (fun k => False) lg0 it0 lg it → ((0 ≤ (x4).toInt)) → (61 - (x4).toInt).toNat < n → w_X9_tape_b72 a1 a2 a3 Pz  n x4 lg it := by
                  intro n72
                  induction n72 with
                  | zero => intro x4 lg it _ _ _ hn; exact absurd hn (Nat.not_lt_zero _)
                  | succ n72 ih72 =>
                    intro x4 lg181 it182 hI179 hK180 hv hn
                    unfold w_X9_tape_b72
                    have hv72_0 := hv
                    refine ⟨fun c76 => ?_, fun c76 => ?_⟩
                    · try simp only [Int32.lt_iff_toInt_lt, Int32.le_iff_toInt_le, ← Int32.toInt_inj, Int32.toInt_toInt64, tiA, tlA] at c76
                      subst hp
                      exact ⟨hI179, hK180⟩
                    · try simp only [Int32.lt_iff_toInt_lt, Int32.le_iff_toInt_le, ← Int32.toInt_inj, Int32.toInt_toInt64, tiA, tlA] at c76
                      try have f183 : ((60 * a1) : Int32).toInt = 60 * (a1).toInt := ml32 (a := 60) (b := (a1).toInt) (ti_60) (rfl) (by omega) (by omega)
                      try have f184 : (((60 * a1) + x4) : Int32).toInt = ((60 * a1)).toInt + (x4).toInt := ad32 (a := ((60 * a1)).toInt) (b := (x4).toInt) (rfl) (rfl) (by omega) (by omega)
                      have hi185 : vp_in ((60 * a1) + x4) 360 := vp_of (by first | omega | ((try simp only [Int32.lt_iff_toInt_lt, Int32.le_iff_toInt_le, ← Int32.toInt_inj, Int32.toInt_toInt64, tiA, tlA]); omega) | (split <;> omega)) (by first | omega | ((try simp only [Int32.lt_iff_toInt_lt, Int32.le_iff_toInt_le, ← Int32.toInt_inj, Int32.toInt_toInt64, tiA, tlA]); omega) | (split <;> omega))
                      refine ⟨hi185, ?_⟩
                      have hz186 := vlt hi185
                      intro lg187 em188
                      have hI189 : I9 lg187 it182 := by rw [em188]; exact i9_l hI179 (by decide) (by decide) (by decide)
                      have hK190 : Kd (fun j => j = 518 ∨ j = 519 ∨ j = 520) (fun k => False) lg0 it0 lg187 it182 := by rw [em188]; exact kd_lr (by decide) (by first | decide | (dsimp only; decide) | omega | (dsimp only; omega)) hK180
                      try have f191 : ((x4 + 1) : Int32).toInt = (x4).toInt + 1 := ad32 (a := (x4).toInt) (b := 1) (rfl) (ti_1) (by omega) (by omega)
                      exact ih72 ((x4 + 1)) _ _ hI189 hK190 (by first | exact Nx_0 | omega | assumption) (by omega)
                have t192 := ti_0
                exact ⟨_, lp72 ((61 - ((0 : Int32)).toInt).toNat + 1) ((0 : Int32)) _ _ hI177 hK178 (by first | exact Nx_0 | omega | assumption) (Nat.lt_succ_self _)⟩
              · try simp only [Int32.lt_iff_toInt_lt, Int32.le_iff_toInt_le, ← Int32.toInt_inj, Int32.toInt_toInt64, tiA, tlA] at c60
                have hi193 : vp_in a1 6 := vp_of (by first | omega | ((try simp only [Int32.lt_iff_toInt_lt, Int32.le_iff_toInt_le, ← Int32.toInt_inj, Int32.toInt_toInt64, tiA, tlA]); omega) | (split <;> omega)) (by first | omega | ((try simp only [Int32.lt_iff_toInt_lt, Int32.le_iff_toInt_le, ← Int32.toInt_inj, Int32.toInt_toInt64, tiA, tlA]); omega) | (split <;> omega))
                refine ⟨hi193, ?_⟩
                have hz194 := vlt hi193
                intro it195 em196
                have hI197 : I9 lg0 it195 := by rw [em196]; exact i9_u hI171 (ok9_b (a := 0) (b := 60) rfl (by first | decide | ((try simp only [Int32.lt_iff_toInt_lt, Int32.le_iff_toInt_le, ← Int32.toInt_inj, Int32.toInt_toInt64, tiA, tlA]); omega) | (split <;> (try simp only [Int32.lt_iff_toInt_lt, Int32.le_iff_toInt_le, ← Int32.toInt_inj, Int32.toInt_toInt64, tiA, tlA]) <;> omega))) (by decide) (fun q => absurd q (by decide))
                have hK198 : Kd (fun j => j = 518 ∨ j = 519 ∨ j = 520) (fun k => False) lg0 it0 lg0 it195 := by rw [em196]; exact kd_ur (by decide) (by first | decide | (dsimp only; decide) | omega | (dsimp only; omega)) hK172
                have lp72 : ∀ (n : Nat) (x4 : Int32) (lg : LGt) (it : ITt), I9 lg it → Kd (fun j => j = 518 ∨ j = 519 ∨ j = 520) (fun k => False) lg0 it0 lg it → ((0 ≤ (x4).toInt)) → (61 - (x4).toInt).toNat < n → w_X9_tape_b72 a1 a2 a3 Pz  n x4 lg it := by
                  intro n72
                  induction n72 with
                  | zero => intro x4 lg it _ _ _ hn; exact absurd hn (Nat.not_lt_zero _)
                  | succ n72 ih72 =>
                    intro x4 lg201 it202 hI199 hK200 hv hn
                    unfold w_X9_tape_b72
                    have hv72_0 := hv
                    refine ⟨fun c76 => ?_, fun c76 => ?_⟩
                    · try simp only [Int32.lt_iff_toInt_lt, Int32.le_iff_toInt_le, ← Int32.toInt_inj, Int32.toInt_toInt64, tiA, tlA] at c76
                      subst hp
                      exact ⟨hI199, hK200⟩
                    · try simp only [Int32.lt_iff_toInt_lt, Int32.le_iff_toInt_le, ← Int32.toInt_inj, Int32.toInt_toInt64, tiA, tlA] at c76
                      try have f203 : ((60 * a1) : Int32).toInt = 60 * (a1).toInt := ml32 (a := 60) (b := (a1).toInt) (ti_60) (rfl) (by omega) (by omega)
                      try have f204 : (((60 * a1) + x4) : Int32).toInt = ((60 * a1)).toInt + (x4).toInt := ad32 (a := ((60 * a1)).toInt) (b := (x4).toInt) (rfl) (rfl) (by omega) (by omega)
                      have hi205 : vp_in ((60 * a1) + x4) 360 := vp_of (by first | omega | ((try simp only [Int32.lt_iff_toInt_lt, Int32.le_iff_toInt_le, ← Int32.toInt_inj, Int32.toInt_toInt64, tiA, tlA]); omega) | (split <;> omega)) (by first | omega | ((try simp only [Int32.lt_iff_toInt_lt, Int32.le_iff_toInt_le, ← Int32.toInt_inj, Int32.toInt_toInt64, tiA, tlA]); omega) | (split <;> omega))
                      refine ⟨hi205, ?_⟩
                      have hz206 := vlt hi205
                      intro lg207 em208
                      have hI209 : I9 lg207 it202 := by rw [em208]; exact i9_l hI199 (by decide) (by decide) (by decide)
                      have hK210 : Kd (fun j => j = 518 ∨ j = 519 ∨ j = 520) (fun k => False) lg0 it0 lg207 it202 := by rw [em208]; exact kd_lr (by decide) (by first | decide | (dsimp only; decide) | omega | (dsimp only; omega)) hK200
                      try have f211 : ((x4 + 1) : Int32).toInt = (x4).toInt + 1 := ad32 (a := (x4).toInt) (b := 1) (rfl) (ti_1) (by omega) (by omega)
                      exact ih72 ((x4 + 1)) _ _ hI209 hK210 (by first | exact Nx_0 | omega | assumption) (by omega)
                have t212 := ti_0
                exact ⟨_, lp72 ((61 - ((0 : Int32)).toInt).toNat + 1) ((0 : Int32)) _ _ hI197 hK198 (by first | exact Nx_0 | omega | assumption) (Nat.lt_succ_self _)⟩
            · try simp only [Int32.lt_iff_toInt_lt, Int32.le_iff_toInt_le, ← Int32.toInt_inj, Int32.toInt_toInt64, tiA, tlA] at c41
              subst hp
              exact ⟨hI, hKr⟩
        · try simp only [Int32.lt_iff_toInt_lt, Int32.le_iff_toInt_le, ← Int32.toInt_inj, Int32.toInt_toInt64, tiA, tlA] at c30
          subst hp
          exact ⟨hI, hKr⟩
  · try simp only [Int32.lt_iff_toInt_lt, Int32.le_iff_toInt_le, ← Int32.toInt_inj, Int32.toInt_toInt64, tiA, tlA] at c4
    subst hp
    exact ⟨hI, hKr⟩
set_option maxRecDepth 100000 in
theorem s_X9_peek (a1 : Int32) (a2 : Int32) {lg0 : LGt} {it0 : ITt} (hI : I9 lg0 it0) : w_X9_peek a1 a2 (fun (v : Int64) (lg' : LGt) (it' : ITt) => (I9 lg' it' ∧ Kd (fun j => False) (fun k => False) lg0 it0 lg' it'))  lg0 it0 := by
  have hb_a1 := And.intro a1.le_toInt a1.toInt_lt
  have hb_a2 := And.intro a2.le_toInt a2.toInt_lt
  have hKr : Kd (fun j => False) (fun k => False) lg0 it0 lg0 it0 := kd_r
  generalize hp : (fun (v : Int64) (lg' : LGt) (it' : ITt) => (I9 lg' it' ∧ Kd (fun j => False) (fun k => False) lg0 it0 lg' it')) = Pz
  unfold w_X9_peek
  refine ⟨fun c4 => ?_, fun c4 => ?_⟩
  · try simp only [Int32.lt_iff_toInt_lt, Int32.le_iff_toInt_le, ← Int32.toInt_inj, Int32.toInt_toInt64, tiA, tlA] at c4
    subst hp
    exact ⟨hI, hKr⟩
  · try simp only [Int32.lt_iff_toInt_lt, Int32.le_iff_toInt_le, ← Int32.toInt_inj, Int32.toInt_toInt64, tiA, tlA] at c4
    have hi9 : vp_in a1 6 := vp_of (by first | omega | ((try simp only [Int32.lt_iff_toInt_lt, Int32.le_iff_toInt_le, ← Int32.toInt_inj, Int32.toInt_toInt64, tiA, tlA]); omega) | (split <;> omega)) (by first | omega | ((try simp only [Int32.lt_iff_toInt_lt, Int32.le_iff_toInt_le, ← Int32.toInt_inj, Int32.toInt_toInt64, tiA, tlA]); omega) | (split <;> omega))
    refine ⟨hi9, ?_⟩
    have hz10 := vlt hi9
    have f11 : 0 ≤ (it0 519 a1.toNatClampNeg).toInt ∧ (it0 519 a1.toNatClampNeg).toInt ≤ 60 := i9_f hI (j := 519) (k := a1.toNatClampNeg) rfl
    try have f12 : (((it0 519 a1.toNatClampNeg) - 1) : Int32).toInt = ((it0 519 a1.toNatClampNeg)).toInt - 1 := sb32 (a := ((it0 519 a1.toNatClampNeg)).toInt) (b := 1) (rfl) (ti_1) (by omega) (by omega)
    refine ⟨fun c22 => ?_, fun c22 => ?_⟩
    · try simp only [Int32.lt_iff_toInt_lt, Int32.le_iff_toInt_le, ← Int32.toInt_inj, Int32.toInt_toInt64, tiA, tlA] at c22
      subst hp
      exact ⟨hI, hKr⟩
    · try simp only [Int32.lt_iff_toInt_lt, Int32.le_iff_toInt_le, ← Int32.toInt_inj, Int32.toInt_toInt64, tiA, tlA] at c22
      try have f13 : ((60 * a1) : Int32).toInt = 60 * (a1).toInt := ml32 (a := 60) (b := (a1).toInt) (ti_60) (rfl) (by omega) (by omega)
      try have f14 : (((60 * a1) + a2) : Int32).toInt = ((60 * a1)).toInt + (a2).toInt := ad32 (a := ((60 * a1)).toInt) (b := (a2).toInt) (rfl) (rfl) (by omega) (by omega)
      have hi15 : vp_in ((60 * a1) + a2) 360 := vp_of (by first | omega | ((try simp only [Int32.lt_iff_toInt_lt, Int32.le_iff_toInt_le, ← Int32.toInt_inj, Int32.toInt_toInt64, tiA, tlA]); omega) | (split <;> omega)) (by first | omega | ((try simp only [Int32.lt_iff_toInt_lt, Int32.le_iff_toInt_le, ← Int32.toInt_inj, Int32.toInt_toInt64, tiA, tlA]); omega) | (split <;> omega))
      refine ⟨hi15, ?_⟩
      have hz16 := vlt hi15
      subst hp
      exact ⟨hI, hKr⟩
set_option maxRecDepth 100000 in
theorem s_X9_item (a1 : Int32) (a2 : Int32) (a3 : Int64) {lg0 : LGt} {it0 : ITt} (hI : I9 lg0 it0) : w_X9_item a1 a2 a3 (fun (v : Int32) (lg' : LGt) (it' : ITt) => (I9 lg' it' ∧ Kd (fun j => j = 520) (fun k => False) lg0 it0 lg' it'))  lg0 it0 := by
  have hb_a1 := And.intro a1.le_toInt a1.toInt_lt
  have hb_a2 := And.intro a2.le_toInt a2.toInt_lt
  have hKr : Kd (fun j => j = 520) (fun k => False) lg0 it0 lg0 it0 := kd_r
  generalize hp : (fun (v : Int32) (lg' : LGt) (it' : ITt) => (I9 lg' it' ∧ Kd (fun j => j = 520) (fun k => False) lg0 it0 lg' it')) = Pz
  unfold w_X9_item
  refine ⟨fun c4 => ?_, fun c4 => ?_⟩
  · try simp only [Int32.lt_iff_toInt_lt, Int32.le_iff_toInt_le, ← Int32.toInt_inj, Int32.toInt_toInt64, tiA, tlA] at c4
    have hi41 : vp_in a1 6 := vp_of (by first | omega | ((try simp only [Int32.lt_iff_toInt_lt, Int32.le_iff_toInt_le, ← Int32.toInt_inj, Int32.toInt_toInt64, tiA, tlA]); omega) | (split <;> omega)) (by first | omega | ((try simp only [Int32.lt_iff_toInt_lt, Int32.le_iff_toInt_le, ← Int32.toInt_inj, Int32.toInt_toInt64, tiA, tlA]); omega) | (split <;> omega))
    refine ⟨hi41, ?_⟩
    have hz42 := vlt hi41
    refine ⟨fun c15 => ?_, fun c15 => ?_⟩
    · try simp only [Int32.lt_iff_toInt_lt, Int32.le_iff_toInt_le, ← Int32.toInt_inj, Int32.toInt_toInt64, tiA, tlA] at c15
      have hi43 : vp_in a1 6 := vp_of (by first | omega | ((try simp only [Int32.lt_iff_toInt_lt, Int32.le_iff_toInt_le, ← Int32.toInt_inj, Int32.toInt_toInt64, tiA, tlA]); omega) | (split <;> omega)) (by first | omega | ((try simp only [Int32.lt_iff_toInt_lt, Int32.le_iff_toInt_le, ← Int32.toInt_inj, Int32.toInt_toInt64, tiA, tlA]); omega) | (split <;> omega))
      refine ⟨hi43, ?_⟩
      have hz44 := vlt hi43
      have f45 : 0 ≤ (it0 519 a1.toNatClampNeg).toInt ∧ (it0 519 a1.toNatClampNeg).toInt ≤ 60 := i9_f hI (j := 519) (k := a1.toNatClampNeg) rfl
      try have f46 : (((it0 519 a1.toNatClampNeg) - 1) : Int32).toInt = ((it0 519 a1.toNatClampNeg)).toInt - 1 := sb32 (a := ((it0 519 a1.toNatClampNeg)).toInt) (b := 1) (rfl) (ti_1) (by omega) (by omega)
      refine ⟨fun c36 => ?_, fun c36 => ?_⟩
      · try simp only [Int32.lt_iff_toInt_lt, Int32.le_iff_toInt_le, ← Int32.toInt_inj, Int32.toInt_toInt64, tiA, tlA] at c36
        have hi47 : vp_in a1 6 := vp_of (by first | omega | ((try simp only [Int32.lt_iff_toInt_lt, Int32.le_iff_toInt_le, ← Int32.toInt_inj, Int32.toInt_toInt64, tiA, tlA]); omega) | (split <;> omega)) (by first | omega | ((try simp only [Int32.lt_iff_toInt_lt, Int32.le_iff_toInt_le, ← Int32.toInt_inj, Int32.toInt_toInt64, tiA, tlA]); omega) | (split <;> omega))
        refine ⟨hi47, ?_⟩
        have hz48 := vlt hi47
        try have f49 : ((60 * a1) : Int32).toInt = 60 * (a1).toInt := ml32 (a := 60) (b := (a1).toInt) (ti_60) (rfl) (by omega) (by omega)
        try have f50 : (((60 * a1) + a2) : Int32).toInt = ((60 * a1)).toInt + (a2).toInt := ad32 (a := ((60 * a1)).toInt) (b := (a2).toInt) (rfl) (rfl) (by omega) (by omega)
        refine ⟨fun c62 => ?_, fun c62 => ?_⟩
        · try simp only [Int32.lt_iff_toInt_lt, Int32.le_iff_toInt_le, ← Int32.toInt_inj, Int32.toInt_toInt64, tiA, tlA] at c62
          refine ⟨fun c75 => ?_, fun c75 => ?_⟩
          · try simp only [Int32.lt_iff_toInt_lt, Int32.le_iff_toInt_le, ← Int32.toInt_inj, Int32.toInt_toInt64, tiA, tlA] at c75
            refine ⟨fun c88 => ?_, fun c88 => ?_⟩
            · try simp only [Int32.lt_iff_toInt_lt, Int32.le_iff_toInt_le, ← Int32.toInt_inj, Int32.toInt_toInt64, tiA, tlA] at c88
              refine ⟨fun c100 => ?_, fun c100 => ?_⟩
              · try simp only [Int32.lt_iff_toInt_lt, Int32.le_iff_toInt_le, ← Int32.toInt_inj, Int32.toInt_toInt64, tiA, tlA] at c100
                refine ⟨fun c110 => ?_, fun c110 => ?_⟩
                · try simp only [Int32.lt_iff_toInt_lt, Int32.le_iff_toInt_le, ← Int32.toInt_inj, Int32.toInt_toInt64, tiA, tlA] at c110
                  have hi51 : vp_in ((60 * a1) + a2) 360 := vp_of (by first | omega | ((try simp only [Int32.lt_iff_toInt_lt, Int32.le_iff_toInt_le, ← Int32.toInt_inj, Int32.toInt_toInt64, tiA, tlA]); omega) | (split <;> omega)) (by first | omega | ((try simp only [Int32.lt_iff_toInt_lt, Int32.le_iff_toInt_le, ← Int32.toInt_inj, Int32.toInt_toInt64, tiA, tlA]); omega) | (split <;> omega))
                  refine ⟨hi51, ?_⟩
                  have hz52 := vlt hi51
                  intro lg53 em54
                  have hI55 : I9 lg53 it0 := by rw [em54]; exact i9_l hI (by decide) (by decide) (by decide)
                  have hK56 : Kd (fun j => j = 520) (fun k => False) lg0 it0 lg53 it0 := by rw [em54]; exact kd_lr (by decide) (by first | decide | (dsimp only; decide) | omega | (dsimp only; omega)) hKr
                  subst hp
                  exact ⟨hI55, hK56⟩
                · try simp only [Int32.lt_iff_toInt_lt, Int32.le_iff_toInt_le, ← Int32.toInt_inj, Int32.toInt_toInt64, tiA, tlA] at c110
                  have hi57 : vp_in ((60 * a1) + a2) 360 := vp_of (by first | omega | ((try simp only [Int32.lt_iff_toInt_lt, Int32.le_iff_toInt_le, ← Int32.toInt_inj, Int32.toInt_toInt64, tiA, tlA]); omega) | (split <;> omega)) (by first | omega | ((try simp only [Int32.lt_iff_toInt_lt, Int32.le_iff_toInt_le, ← Int32.toInt_inj, Int32.toInt_toInt64, tiA, tlA]); omega) | (split <;> omega))
                  refine ⟨hi57, ?_⟩
                  have hz58 := vlt hi57
                  intro lg59 em60
                  have hI61 : I9 lg59 it0 := by rw [em60]; exact i9_l hI (by decide) (by decide) (by decide)
                  have hK62 : Kd (fun j => j = 520) (fun k => False) lg0 it0 lg59 it0 := by rw [em60]; exact kd_lr (by decide) (by first | decide | (dsimp only; decide) | omega | (dsimp only; omega)) hKr
                  subst hp
                  exact ⟨hI61, hK62⟩
              · try simp only [Int32.lt_iff_toInt_lt, Int32.le_iff_toInt_le, ← Int32.toInt_inj, Int32.toInt_toInt64, tiA, tlA] at c100
                have hi63 : vp_in ((60 * a1) + a2) 360 := vp_of (by first | omega | ((try simp only [Int32.lt_iff_toInt_lt, Int32.le_iff_toInt_le, ← Int32.toInt_inj, Int32.toInt_toInt64, tiA, tlA]); omega) | (split <;> omega)) (by first | omega | ((try simp only [Int32.lt_iff_toInt_lt, Int32.le_iff_toInt_le, ← Int32.toInt_inj, Int32.toInt_toInt64, tiA, tlA]); omega) | (split <;> omega))
                refine ⟨hi63, ?_⟩
                have hz64 := vlt hi63
                intro lg65 em66
                have hI67 : I9 lg65 it0 := by rw [em66]; exact i9_l hI (by decide) (by decide) (by decide)
                have hK68 : Kd (fun j => j = 520) (fun k => False) lg0 it0 lg65 it0 := by rw [em66]; exact kd_lr (by decide) (by first | decide | (dsimp only; decide) | omega | (dsimp only; omega)) hKr
                subst hp
                exact ⟨hI67, hK68⟩
            · try simp only [Int32.lt_iff_toInt_lt, Int32.le_iff_toInt_le, ← Int32.toInt_inj, Int32.toInt_toInt64, tiA, tlA] at c88
              have hi69 : vp_in ((60 * a1) + a2) 360 := vp_of (by first | omega | ((try simp only [Int32.lt_iff_toInt_lt, Int32.le_iff_toInt_le, ← Int32.toInt_inj, Int32.toInt_toInt64, tiA, tlA]); omega) | (split <;> omega)) (by first | omega | ((try simp only [Int32.lt_iff_toInt_lt, Int32.le_iff_toInt_le, ← Int32.toInt_inj, Int32.toInt_toInt64, tiA, tlA]); omega) | (split <;> omega))
              refine ⟨hi69, ?_⟩
              have hz70 := vlt hi69
              intro lg71 em72
              have hI73 : I9 lg71 it0 := by rw [em72]; exact i9_l hI (by decide) (by decide) (by decide)
              have hK74 : Kd (fun j => j = 520) (fun k => False) lg0 it0 lg71 it0 := by rw [em72]; exact kd_lr (by decide) (by first | decide | (dsimp only; decide) | omega | (dsimp only; omega)) hKr
              subst hp
              exact ⟨hI73, hK74⟩
          · try simp only [Int32.lt_iff_toInt_lt, Int32.le_iff_toInt_le, ← Int32.toInt_inj, Int32.toInt_toInt64, tiA, tlA] at c75
            have hi75 : vp_in ((60 * a1) + a2) 360 := vp_of (by first | omega | ((try simp only [Int32.lt_iff_toInt_lt, Int32.le_iff_toInt_le, ← Int32.toInt_inj, Int32.toInt_toInt64, tiA, tlA]); omega) | (split <;> omega)) (by first | omega | ((try simp only [Int32.lt_iff_toInt_lt, Int32.le_iff_toInt_le, ← Int32.toInt_inj, Int32.toInt_toInt64, tiA, tlA]); omega) | (split <;> omega))
            refine ⟨hi75, ?_⟩
            have hz76 := vlt hi75
            intro lg77 em78
            have hI79 : I9 lg77 it0 := by rw [em78]; exact i9_l hI (by decide) (by decide) (by decide)
            have hK80 : Kd (fun j => j = 520) (fun k => False) lg0 it0 lg77 it0 := by rw [em78]; exact kd_lr (by decide) (by first | decide | (dsimp only; decide) | omega | (dsimp only; omega)) hKr
            subst hp
            exact ⟨hI79, hK80⟩
        · try simp only [Int32.lt_iff_toInt_lt, Int32.le_iff_toInt_le, ← Int32.toInt_inj, Int32.toInt_toInt64, tiA, tlA] at c62
          have hi81 : vp_in ((60 * a1) + a2) 360 := vp_of (by first | omega | ((try simp only [Int32.lt_iff_toInt_lt, Int32.le_iff_toInt_le, ← Int32.toInt_inj, Int32.toInt_toInt64, tiA, tlA]); omega) | (split <;> omega)) (by first | omega | ((try simp only [Int32.lt_iff_toInt_lt, Int32.le_iff_toInt_le, ← Int32.toInt_inj, Int32.toInt_toInt64, tiA, tlA]); omega) | (split <;> omega))
          refine ⟨hi81, ?_⟩
          have hz82 := vlt hi81
          intro lg83 em84
          have hI85 : I9 lg83 it0 := by rw [em84]; exact i9_l hI (by decide) (by decide) (by decide)
          have hK86 : Kd (fun j => j = 520) (fun k => False) lg0 it0 lg83 it0 := by rw [em84]; exact kd_lr (by decide) (by first | decide | (dsimp only; decide) | omega | (dsimp only; omega)) hKr
          subst hp
          exact ⟨hI85, hK86⟩
      · try simp only [Int32.lt_iff_toInt_lt, Int32.le_iff_toInt_le, ← Int32.toInt_inj, Int32.toInt_toInt64, tiA, tlA] at c36
        subst hp
        exact ⟨hI, hKr⟩
    · try simp only [Int32.lt_iff_toInt_lt, Int32.le_iff_toInt_le, ← Int32.toInt_inj, Int32.toInt_toInt64, tiA, tlA] at c15
      subst hp
      exact ⟨hI, hKr⟩
  · try simp only [Int32.lt_iff_toInt_lt, Int32.le_iff_toInt_le, ← Int32.toInt_inj, Int32.toInt_toInt64, tiA, tlA] at c4
    subst hp
    exact ⟨hI, hKr⟩
set_option maxRecDepth 100000 in
theorem s_X9_count (a1 : Int32) {lg0 : LGt} {it0 : ITt} (hI : I9 lg0 it0) : w_X9_count a1 (fun (v : Int32) (lg' : LGt) (it' : ITt) => (I9 lg' it' ∧ Kd (fun j => False) (fun k => False) lg0 it0 lg' it'))  lg0 it0 := by
  have hb_a1 := And.intro a1.le_toInt a1.toInt_lt
  have hKr : Kd (fun j => False) (fun k => False) lg0 it0 lg0 it0 := kd_r
  generalize hp : (fun (v : Int32) (lg' : LGt) (it' : ITt) => (I9 lg' it' ∧ Kd (fun j => False) (fun k => False) lg0 it0 lg' it')) = Pz
  unfold w_X9_count
  refine ⟨fun c1 => ?_, fun c1 => ?_, fun c1 => ?_, fun c1 => ?_, fun c1 => ?_, trivial⟩
  · skip
    subst hp
    exact ⟨hI, hKr⟩
  · skip
    have f11 : 0 ≤ (it0 489 9).toInt ∧ (it0 489 9).toInt ≤ 5 := i9_f hI (j := 489) (k := 9) rfl
    subst hp
    exact ⟨hI, hKr⟩
  · skip
    have f12 : 0 ≤ (it0 489 10).toInt ∧ (it0 489 10).toInt ≤ 8 := i9_f hI (j := 489) (k := 10) rfl
    subst hp
    exact ⟨hI, hKr⟩
  · skip
    have f13 : 0 ≤ (it0 489 11).toInt ∧ (it0 489 11).toInt ≤ 8 := i9_f hI (j := 489) (k := 11) rfl
    subst hp
    exact ⟨hI, hKr⟩
  · skip
    have f14 : 0 ≤ (it0 489 50).toInt ∧ (it0 489 50).toInt ≤ 100 := i9_f hI (j := 489) (k := 50) rfl
    subst hp
    exact ⟨hI, hKr⟩
