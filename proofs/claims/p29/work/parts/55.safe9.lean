set_option maxRecDepth 100000 in
theorem s_X9_read {lg0 : LGt} {it0 : ITt} (hI : I9 lg0 it0) : w_X9_read  (fun (v : Int32) (lg' : LGt) (it' : ITt) => (I9 lg' it' ∧ Kd (fun j => j = 514 ∨ j = 515 ∨ j = 516 ∨ j = 517 ∨ j = 490 ∨ j = 491 ∨ j = 492 ∨ j = 493 ∨ j = 494 ∨ j = 501 ∨ j = 502 ∨ j = 503 ∨ j = 504 ∨ j = 505 ∨ j = 506 ∨ j = 507 ∨ j = 508 ∨ j = 509 ∨ j = 510 ∨ j = 511 ∨ j = 512) (fun k => k = 0 ∨ k = 1 ∨ k = 2 ∨ k = 3 ∨ k = 18 ∨ k = 19 ∨ k = 20 ∨ k = 28 ∨ k = 29 ∨ k = 30 ∨ k = 31 ∨ k = 32 ∨ k = 33 ∨ k = 34 ∨ k = 35 ∨ k = 36 ∨ k = 37 ∨ k = 38 ∨ k = 39 ∨ k = 40 ∨ k = 41 ∨ k = 42 ∨ k = 43 ∨ k = 50 ∨ k = 51) lg0 it0 lg' it'))  lg0 it0 := by
  have hKr : Kd (fun j => j = 514 ∨ j = 515 ∨ j = 516 ∨ j = 517 ∨ j = 490 ∨ j = 491 ∨ j = 492 ∨ j = 493 ∨ j = 494 ∨ j = 501 ∨ j = 502 ∨ j = 503 ∨ j = 504 ∨ j = 505 ∨ j = 506 ∨ j = 507 ∨ j = 508 ∨ j = 509 ∨ j = 510 ∨ j = 511 ∨ j = 512) (fun k => k = 0 ∨ k = 1 ∨ k = 2 ∨ k = 3 ∨ k = 18 ∨ k = 19 ∨ k = 20 ∨ k = 28 ∨ k = 29 ∨ k = 30 ∨ k = 31 ∨ k = 32 ∨ k = 33 ∨ k = 34 ∨ k = 35 ∨ k = 36 ∨ k = 37 ∨ k = 38 ∨ k = 39 ∨ k = 40 ∨ k = 41 ∨ k = 42 ∨ k = 43 ∨ k = 50 ∨ k = 51) lg0 it0 lg0 it0 := kd_r
  generalize hp : (fun (v : Int32) (lg' : LGt) (it' : ITt) => (I9 lg' it' ∧ Kd (fun j => j = 514 ∨ j = 515 ∨ j = 516 ∨ j = 517 ∨ j = 490 ∨ j = 491 ∨ j = 492 ∨ j = 493 ∨ j = 494 ∨ j = 501 ∨ j = 502 ∨ j = 503 ∨ j = 504 ∨ j = 505 ∨ j = 506 ∨ j = 507 ∨ j = 508 ∨ j = 509 ∨ j = 510 ∨ j = 511 ∨ j = 512) (fun k => k = 0 ∨ k = 1 ∨ k = 2 ∨ k = 3 ∨ k = 18 ∨ k = 19 ∨ k = 20 ∨ k = 28 ∨ k = 29 ∨ k = 30 ∨ k = 31 ∨ k = 32 ∨ k = 33 ∨ k = 34 ∨ k = 35 ∨ k = 36 ∨ k = 37 ∨ k = 38 ∨ k = 39 ∨ k = 40 ∨ k = 41 ∨ k = 42 ∨ k = 43 ∨ k = 50 ∨ k = 51) lg0 it0 lg' it')) = Pz
  unfold w_X9_read
  have t0 := ti_0
  have t9 := ti_9
  have tm1 := ti_m1
  have t1 := ti_1
  have f50 := i9_f hI (j := 489) (k := 50) rfl
  intro it48 em49
  have hI50 : I9 lg0 it48 := by rw [em49]; exact i9_u hI (ok9_b (a := 0) (b := 100) rfl (by first | decide | ((try simp only [Int32.lt_iff_toInt_lt, Int32.le_iff_toInt_le, ← Int32.toInt_inj, Int32.toInt_toInt64, tiA, tlA]); omega) | (split <;> (try simp only [Int32.lt_iff_toInt_lt, Int32.le_iff_toInt_le, ← Int32.toInt_inj, Int32.toInt_toInt64, tiA, tlA]) <;> omega))) (by decide) (fun _ => by decide)
  have hK51 : Kd (fun j => j = 514 ∨ j = 515 ∨ j = 516 ∨ j = 517 ∨ j = 490 ∨ j = 491 ∨ j = 492 ∨ j = 493 ∨ j = 494 ∨ j = 501 ∨ j = 502 ∨ j = 503 ∨ j = 504 ∨ j = 505 ∨ j = 506 ∨ j = 507 ∨ j = 508 ∨ j = 509 ∨ j = 510 ∨ j = 511 ∨ j = 512) (fun k => k = 0 ∨ k = 1 ∨ k = 2 ∨ k = 3 ∨ k = 18 ∨ k = 19 ∨ k = 20 ∨ k = 28 ∨ k = 29 ∨ k = 30 ∨ k = 31 ∨ k = 32 ∨ k = 33 ∨ k = 34 ∨ k = 35 ∨ k = 36 ∨ k = 37 ∨ k = 38 ∨ k = 39 ∨ k = 40 ∨ k = 41 ∨ k = 42 ∨ k = 43 ∨ k = 50 ∨ k = 51) lg0 it0 lg0 it48 := by rw [em49]; exact kd_uf (by first | decide | (dsimp only; decide) | omega | (dsimp only; omega)) hKr
  have e52 : (it48 489 50).toInt = (it0 489 50).toInt := by rw [em49]; exact congrArg Int32.toInt (u2_ne (by decide))
  have e54 : (it48 489 51).toInt = (0 : Int32).toInt := by rw [em49]; exact congrArg Int32.toInt u2_eq
  have lp11 : ∀ (n : Nat) (x1 : Int32) (x2 : Int32) (x3 : Int32) (lg : LGt) (it : ITt), I9 lg it → Kd (fun j => j = 514 ∨ j = 515 ∨ j = 516 ∨ j = 517 ∨ j = 490 ∨ j = 491 ∨ j = 492 ∨ j = 493 ∨ j = 494 ∨ j = 501 ∨ j = 502 ∨ j = 503 ∨ j = 504 ∨ j = 505 ∨ j = 506 ∨ j = 507 ∨ j = 508 ∨ j = 509 ∨ j = 510 ∨ j = 511 ∨ j = 512) (fun k => k = 0 ∨ k = 1 ∨ k = 2 ∨ k = 3 ∨ k = 18 ∨ k = 19 ∨ k = 20 ∨ k = 28 ∨ k = 29 ∨ k = 30 ∨ k = 31 ∨ k = 32 ∨ k = 33 ∨ k = 34 ∨ k = 35 ∨ k = 36 ∨ k = 37 ∨ k = 38 ∨ k = 39 ∨ k = 40 ∨ k = 41 ∨ k = 42 ∨ k = 43 ∨ k = 50 ∨ k = 51) lg0 it0 lg it → ((0 ≤ (x1).toInt) ∧ ((x1).toInt ≤ 12) ∧ (((x2).toInt = 0 ∨ (x1).toInt < 12)) ∧ (0 ≤ (x2).toInt) ∧ ((x2).toInt ≤ 1) ∧ ((it 489 51).toInt ≤ (it 489 50).toInt)) → (2 * (13 - (x1).toInt) + (x2).toInt).toNat < n → w_X9_read_b11  Pz  n x1 x2 x3 lg it := by
    intro n11
    induction n11 with
    | zero => intro x1 x2 x3 lg it _ _ _ hn; exact absurd hn (Nat.not_lt_zero _)
    | succ n11 ih11 =>
      intro x1 x2 x3 lg57 it58 hI55 hK56 hv hn
      unfold w_X9_read_b11
      obtain ⟨hv11_0, hv11_1, hv11_2, hv11_3, hv11_4, hv11_5⟩ := hv
      refine ⟨fun c12 => ?_, fun c12 => ?_⟩
      · try simp only [Int32.lt_iff_toInt_lt, Int32.le_iff_toInt_le, ← Int32.toInt_inj, Int32.toInt_toInt64, tiA, tlA] at c12
        unfold w_X9_read_b65
        refine ⟨fun c66 => ?_, fun c66 => ?_⟩
        · try simp only [Int32.lt_iff_toInt_lt, Int32.le_iff_toInt_le, ← Int32.toInt_inj, Int32.toInt_toInt64, tiA, tlA] at c66
          unfold w_X9_read_b84
          unfold w_X9_read_b85
          intro it59 em60
          have hI61 : I9 lg57 it59 := by rw [em60]; exact i9_u hI55 (ok9_b (a := 0) (b := 100) rfl (by first | decide | ((try simp only [Int32.lt_iff_toInt_lt, Int32.le_iff_toInt_le, ← Int32.toInt_inj, Int32.toInt_toInt64, tiA, tlA]); omega) | (split <;> (try simp only [Int32.lt_iff_toInt_lt, Int32.le_iff_toInt_le, ← Int32.toInt_inj, Int32.toInt_toInt64, tiA, tlA]) <;> omega))) (by decide) (fun _ => by decide)
          have hK62 : Kd (fun j => j = 514 ∨ j = 515 ∨ j = 516 ∨ j = 517 ∨ j = 490 ∨ j = 491 ∨ j = 492 ∨ j = 493 ∨ j = 494 ∨ j = 501 ∨ j = 502 ∨ j = 503 ∨ j = 504 ∨ j = 505 ∨ j = 506 ∨ j = 507 ∨ j = 508 ∨ j = 509 ∨ j = 510 ∨ j = 511 ∨ j = 512) (fun k => k = 0 ∨ k = 1 ∨ k = 2 ∨ k = 3 ∨ k = 18 ∨ k = 19 ∨ k = 20 ∨ k = 28 ∨ k = 29 ∨ k = 30 ∨ k = 31 ∨ k = 32 ∨ k = 33 ∨ k = 34 ∨ k = 35 ∨ k = 36 ∨ k = 37 ∨ k = 38 ∨ k = 39 ∨ k = 40 ∨ k = 41 ∨ k = 42 ∨ k = 43 ∨ k = 50 ∨ k = 51) lg0 it0 lg57 it59 := by rw [em60]; exact kd_uf (by first | decide | (dsimp only; decide) | omega | (dsimp only; omega)) hK56
          have e64 : (it59 489 51).toInt = (it58 489 51).toInt := by rw [em60]; exact congrArg Int32.toInt (u2_ne (by decide))
          have e65 : (it59 489 50).toInt = (0 : Int32).toInt := by rw [em60]; exact congrArg Int32.toInt u2_eq
          refine ⟨fun c92 => ?_, fun c92 => ?_⟩
          · exact absurd c92 (by decide)
          · skip
            have f66 : 0 ≤ (it59 489 51).toInt ∧ (it59 489 51).toInt ≤ 100 := i9_f hI61 (j := 489) (k := 51) rfl
            try have f67 : (((-10) - (it59 489 51)) : Int32).toInt = (-10) - ((it59 489 51)).toInt := sb32 (a := (-10)) (b := ((it59 489 51)).toInt) (ti_m10) (rfl) (by omega) (by omega)
            subst hp
            exact ⟨hI61, hK62⟩
        · try simp only [Int32.lt_iff_toInt_lt, Int32.le_iff_toInt_le, ← Int32.toInt_inj, Int32.toInt_toInt64, tiA, tlA] at c66
          have f68 : 0 ≤ (it58 489 51).toInt ∧ (it58 489 51).toInt ≤ 100 := i9_f hI55 (j := 489) (k := 51) rfl
          have f69 : 0 ≤ (it58 489 50).toInt ∧ (it58 489 50).toInt ≤ 100 := i9_f hI55 (j := 489) (k := 50) rfl
          refine ⟨fun c77 => ?_, fun c77 => ?_⟩
          · try simp only [Int32.lt_iff_toInt_lt, Int32.le_iff_toInt_le, ← Int32.toInt_inj, Int32.toInt_toInt64, tiA, tlA] at c77
            unfold w_X9_read_b84
            unfold w_X9_read_b85
            intro it70 em71
            have hI72 : I9 lg57 it70 := by rw [em71]; exact i9_u hI55 (ok9_b (a := 0) (b := 100) rfl (by first | decide | ((try simp only [Int32.lt_iff_toInt_lt, Int32.le_iff_toInt_le, ← Int32.toInt_inj, Int32.toInt_toInt64, tiA, tlA]); omega) | (split <;> (try simp only [Int32.lt_iff_toInt_lt, Int32.le_iff_toInt_le, ← Int32.toInt_inj, Int32.toInt_toInt64, tiA, tlA]) <;> omega))) (by decide) (fun _ => by decide)
            have hK73 : Kd (fun j => j = 514 ∨ j = 515 ∨ j = 516 ∨ j = 517 ∨ j = 490 ∨ j = 491 ∨ j = 492 ∨ j = 493 ∨ j = 494 ∨ j = 501 ∨ j = 502 ∨ j = 503 ∨ j = 504 ∨ j = 505 ∨ j = 506 ∨ j = 507 ∨ j = 508 ∨ j = 509 ∨ j = 510 ∨ j = 511 ∨ j = 512) (fun k => k = 0 ∨ k = 1 ∨ k = 2 ∨ k = 3 ∨ k = 18 ∨ k = 19 ∨ k = 20 ∨ k = 28 ∨ k = 29 ∨ k = 30 ∨ k = 31 ∨ k = 32 ∨ k = 33 ∨ k = 34 ∨ k = 35 ∨ k = 36 ∨ k = 37 ∨ k = 38 ∨ k = 39 ∨ k = 40 ∨ k = 41 ∨ k = 42 ∨ k = 43 ∨ k = 50 ∨ k = 51) lg0 it0 lg57 it70 := by rw [em71]; exact kd_uf (by first | decide | (dsimp only; decide) | omega | (dsimp only; omega)) hK56
            have e75 : (it70 489 51).toInt = (it58 489 51).toInt := by rw [em71]; exact congrArg Int32.toInt (u2_ne (by decide))
            have e76 : (it70 489 50).toInt = (0 : Int32).toInt := by rw [em71]; exact congrArg Int32.toInt u2_eq
            refine ⟨fun c92 => ?_, fun c92 => ?_⟩
            · exact absurd c92 (by decide)
            · skip
              have f77 : 0 ≤ (it70 489 51).toInt ∧ (it70 489 51).toInt ≤ 100 := i9_f hI72 (j := 489) (k := 51) rfl
              try have f78 : (((-10) - (it70 489 51)) : Int32).toInt = (-10) - ((it70 489 51)).toInt := sb32 (a := (-10)) (b := ((it70 489 51)).toInt) (ti_m10) (rfl) (by omega) (by omega)
              subst hp
              exact ⟨hI72, hK73⟩
          · try simp only [Int32.lt_iff_toInt_lt, Int32.le_iff_toInt_le, ← Int32.toInt_inj, Int32.toInt_toInt64, tiA, tlA] at c77
            unfold w_X9_read_b85
            intro it79 em80
            have hI81 : I9 lg57 it79 := by rw [em80]; exact i9_u hI55 (ok9_b (a := 0) (b := 100) rfl (by first | decide | ((try simp only [Int32.lt_iff_toInt_lt, Int32.le_iff_toInt_le, ← Int32.toInt_inj, Int32.toInt_toInt64, tiA, tlA]); omega) | (split <;> (try simp only [Int32.lt_iff_toInt_lt, Int32.le_iff_toInt_le, ← Int32.toInt_inj, Int32.toInt_toInt64, tiA, tlA]) <;> omega))) (by decide) (fun _ => by decide)
            have hK82 : Kd (fun j => j = 514 ∨ j = 515 ∨ j = 516 ∨ j = 517 ∨ j = 490 ∨ j = 491 ∨ j = 492 ∨ j = 493 ∨ j = 494 ∨ j = 501 ∨ j = 502 ∨ j = 503 ∨ j = 504 ∨ j = 505 ∨ j = 506 ∨ j = 507 ∨ j = 508 ∨ j = 509 ∨ j = 510 ∨ j = 511 ∨ j = 512) (fun k => k = 0 ∨ k = 1 ∨ k = 2 ∨ k = 3 ∨ k = 18 ∨ k = 19 ∨ k = 20 ∨ k = 28 ∨ k = 29 ∨ k = 30 ∨ k = 31 ∨ k = 32 ∨ k = 33 ∨ k = 34 ∨ k = 35 ∨ k = 36 ∨ k = 37 ∨ k = 38 ∨ k = 39 ∨ k = 40 ∨ k = 41 ∨ k = 42 ∨ k = 43 ∨ k = 50 ∨ k = 51) lg0 it0 lg57 it79 := by rw [em80]; exact kd_uf (by first | decide | (dsimp only; decide) | omega | (dsimp only; omega)) hK56
            have e84 : (it79 489 51).toInt = (it58 489 51).toInt := by rw [em80]; exact congrArg Int32.toInt (u2_ne (by decide))
            have e85 : (it79 489 50).toInt = (0 : Int32).toInt := by rw [em80]; exact congrArg Int32.toInt u2_eq
            refine ⟨fun c92 => ?_, fun c92 => ?_⟩
            · skip
              have lp109 : ∀ (n : Nat) (x1 : Int32) (x4 : Int32) (x5 : Int32) (lg : LGt) (it : ITt), I9 lg it → Kd (fun j => j = 514 ∨ j = 515 ∨ j = 516 ∨ j = 517 ∨ j = 490 ∨ j = 491 ∨ j = 492 ∨ j = 493 ∨ j = 494 ∨ j = 501 ∨ j = 502 ∨ j = 503 ∨ j = 504 ∨ j = 505 ∨ j = 506 ∨ j = 507 ∨ j = 508 ∨ j = 509 ∨ j = 510 ∨ j = 511 ∨ j = 512) (fun k => k = 0 ∨ k = 1 ∨ k = 2 ∨ k = 3 ∨ k = 18 ∨ k = 19 ∨ k = 20 ∨ k = 28 ∨ k = 29 ∨ k = 30 ∨ k = 31 ∨ k = 32 ∨ k = 33 ∨ k = 34 ∨ k = 35 ∨ k = 36 ∨ k = 37 ∨ k = 38 ∨ k = 39 ∨ k = 40 ∨ k = 41 ∨ k = 42 ∨ k = 43 ∨ k = 50 ∨ k = 51) lg0 it0 lg it → ((0 ≤ (x5).toInt) ∧ ((x1).toInt ≤ 12)) → (13 - (x5).toInt).toNat < n → w_X9_read_b109  Pz  n x1 x4 x5 lg it := by
                intro n109
                induction n109 with
                | zero => intro x1 x4 x5 lg it _ _ _ hn; exact absurd hn (Nat.not_lt_zero _)
                | succ n109 ih109 =>
                  intro x1 x4 x5 lg88 it89 hI86 hK87 hv hn
                  unfold w_X9_read_b109
                  obtain ⟨hv109_0, hv109_1⟩ := hv
                  refine ⟨fun c112 => ?_, fun c112 => ?_⟩
                  · try simp only [Int32.lt_iff_toInt_lt, Int32.le_iff_toInt_le, ← Int32.toInt_inj, Int32.toInt_toInt64, tiA, tlA] at c112
                    subst hp
                    exact ⟨hI86, hK87⟩
                  · try simp only [Int32.lt_iff_toInt_lt, Int32.le_iff_toInt_le, ← Int32.toInt_inj, Int32.toInt_toInt64, tiA, tlA] at c112
                    refine ⟨_, s_X9_isDone  (x5) hI86 (by omega), ?_⟩
                    intro v95 lg90 it91 hq
                    obtain ⟨⟨hI92, hK93⟩, ha96⟩ := hq
                    have hK94 : Kd (fun j => j = 514 ∨ j = 515 ∨ j = 516 ∨ j = 517 ∨ j = 490 ∨ j = 491 ∨ j = 492 ∨ j = 493 ∨ j = 494 ∨ j = 501 ∨ j = 502 ∨ j = 503 ∨ j = 504 ∨ j = 505 ∨ j = 506 ∨ j = 507 ∨ j = 508 ∨ j = 509 ∨ j = 510 ∨ j = 511 ∨ j = 512) (fun k => k = 0 ∨ k = 1 ∨ k = 2 ∨ k = 3 ∨ k = 18 ∨ k = 19 ∨ k = 20 ∨ k = 28 ∨ k = 29 ∨ k = 30 ∨ k = 31 ∨ k = 32 ∨ k = 33 ∨ k = 34 ∨ k = 35 ∨ k = 36 ∨ k = 37 ∨ k = 38 ∨ k = 39 ∨ k = 40 ∨ k = 41 ∨ k = 42 ∨ k = 43 ∨ k = 50 ∨ k = 51) lg0 it0 lg90 it91 := kd_t hK87 hK93 (fun j hj => by first | omega | exact False.elim hj | (dsimp only at hj ⊢; omega)) (fun j hj => by first | omega | exact False.elim hj | (dsimp only at hj ⊢; omega))
                    try have e97 : (it91 489 50).toInt = (it89 489 50).toInt := congrArg Int32.toInt (hK93.2 50 (by first | decide | (dsimp only; decide) | omega | (dsimp only; omega))).2
                    try have e98 : (it91 489 51).toInt = (it89 489 51).toInt := congrArg Int32.toInt (hK93.2 51 (by first | decide | (dsimp only; decide) | omega | (dsimp only; omega))).2
                    refine ⟨fun c123 => ?_, fun c123 => ?_⟩
                    · try simp only [Int32.lt_iff_toInt_lt, Int32.le_iff_toInt_le, ← Int32.toInt_inj, Int32.toInt_toInt64, tiA, tlA] at c123
                      try have f99 : ((x4 + 0) : Int32).toInt = (x4).toInt + 0 := ad32 (a := (x4).toInt) (b := 0) (rfl) (ti_0) (by omega) (by omega)
                      try have f100 : ((x5 + 1) : Int32).toInt = (x5).toInt + 1 := ad32 (a := (x5).toInt) (b := 1) (rfl) (ti_1) (by omega) (by omega)
                      exact ih109 (x1) ((x4 + 0)) ((x5 + 1)) _ _ hI92 hK94 (by refine ⟨?_, ?_⟩ <;> first | exact Nx_0 | omega | assumption | exact Or.inl rfl | exact Or.inr rfl | exact i8_1 (by assumption) (by assumption) | decide) (by omega)
                    · try simp only [Int32.lt_iff_toInt_lt, Int32.le_iff_toInt_le, ← Int32.toInt_inj, Int32.toInt_toInt64, tiA, tlA] at c123
                      try have f101 : ((x4 + 1) : Int32).toInt = (x4).toInt + 1 := ad32 (a := (x4).toInt) (b := 1) (rfl) (ti_1) (by omega) (by omega)
                      try have f102 : ((x5 + 1) : Int32).toInt = (x5).toInt + 1 := ad32 (a := (x5).toInt) (b := 1) (rfl) (ti_1) (by omega) (by omega)
                      exact ih109 (x1) ((x4 + 1)) ((x5 + 1)) _ _ hI92 hK94 (by refine ⟨?_, ?_⟩ <;> first | exact Nx_0 | omega | assumption | exact Or.inl rfl | exact Or.inr rfl | exact i8_1 (by assumption) (by assumption) | decide) (by omega)
              have t103 := ti_0
              have t104 := ti_0
              exact ⟨_, lp109 ((13 - ((0 : Int32)).toInt).toNat + 1) (x1) ((0 : Int32)) ((0 : Int32)) _ _ hI81 hK82 (by refine ⟨?_, ?_⟩ <;> first | exact Nx_0 | omega | assumption | exact Or.inl rfl | exact Or.inr rfl | exact i8_1 (by assumption) (by assumption) | decide) (Nat.lt_succ_self _)⟩
            · exact absurd c92 (by decide)
      · try simp only [Int32.lt_iff_toInt_lt, Int32.le_iff_toInt_le, ← Int32.toInt_inj, Int32.toInt_toInt64, tiA, tlA] at c12
        refine ⟨fun c16 => ?_, fun c16 => ?_⟩
        · try simp only [Int32.lt_iff_toInt_lt, Int32.le_iff_toInt_le, ← Int32.toInt_inj, Int32.toInt_toInt64, tiA, tlA] at c16
          unfold w_X9_read_b65
          refine ⟨fun c66 => ?_, fun c66 => ?_⟩
          · try simp only [Int32.lt_iff_toInt_lt, Int32.le_iff_toInt_le, ← Int32.toInt_inj, Int32.toInt_toInt64, tiA, tlA] at c66
            unfold w_X9_read_b84
            unfold w_X9_read_b85
            intro it105 em106
            have hI107 : I9 lg57 it105 := by rw [em106]; exact i9_u hI55 (ok9_b (a := 0) (b := 100) rfl (by first | decide | ((try simp only [Int32.lt_iff_toInt_lt, Int32.le_iff_toInt_le, ← Int32.toInt_inj, Int32.toInt_toInt64, tiA, tlA]); omega) | (split <;> (try simp only [Int32.lt_iff_toInt_lt, Int32.le_iff_toInt_le, ← Int32.toInt_inj, Int32.toInt_toInt64, tiA, tlA]) <;> omega))) (by decide) (fun _ => by decide)
            have hK108 : Kd (fun j => j = 514 ∨ j = 515 ∨ j = 516 ∨ j = 517 ∨ j = 490 ∨ j = 491 ∨ j = 492 ∨ j = 493 ∨ j = 494 ∨ j = 501 ∨ j = 502 ∨ j = 503 ∨ j = 504 ∨ j = 505 ∨ j = 506 ∨ j = 507 ∨ j = 508 ∨ j = 509 ∨ j = 510 ∨ j = 511 ∨ j = 512) (fun k => k = 0 ∨ k = 1 ∨ k = 2 ∨ k = 3 ∨ k = 18 ∨ k = 19 ∨ k = 20 ∨ k = 28 ∨ k = 29 ∨ k = 30 ∨ k = 31 ∨ k = 32 ∨ k = 33 ∨ k = 34 ∨ k = 35 ∨ k = 36 ∨ k = 37 ∨ k = 38 ∨ k = 39 ∨ k = 40 ∨ k = 41 ∨ k = 42 ∨ k = 43 ∨ k = 50 ∨ k = 51) lg0 it0 lg57 it105 := by rw [em106]; exact kd_uf (by first | decide | (dsimp only; decide) | omega | (dsimp only; omega)) hK56
            have e110 : (it105 489 51).toInt = (it58 489 51).toInt := by rw [em106]; exact congrArg Int32.toInt (u2_ne (by decide))
            have e111 : (it105 489 50).toInt = (0 : Int32).toInt := by rw [em106]; exact congrArg Int32.toInt u2_eq
            refine ⟨fun c92 => ?_, fun c92 => ?_⟩
            · exact absurd c92 (by decide)
            · skip
              have f112 : 0 ≤ (it105 489 51).toInt ∧ (it105 489 51).toInt ≤ 100 := i9_f hI107 (j := 489) (k := 51) rfl
              try have f113 : (((-10) - (it105 489 51)) : Int32).toInt = (-10) - ((it105 489 51)).toInt := sb32 (a := (-10)) (b := ((it105 489 51)).toInt) (ti_m10) (rfl) (by omega) (by omega)
              subst hp
              exact ⟨hI107, hK108⟩
          · try simp only [Int32.lt_iff_toInt_lt, Int32.le_iff_toInt_le, ← Int32.toInt_inj, Int32.toInt_toInt64, tiA, tlA] at c66
            have f114 : 0 ≤ (it58 489 51).toInt ∧ (it58 489 51).toInt ≤ 100 := i9_f hI55 (j := 489) (k := 51) rfl
            have f115 : 0 ≤ (it58 489 50).toInt ∧ (it58 489 50).toInt ≤ 100 := i9_f hI55 (j := 489) (k := 50) rfl
            refine ⟨fun c77 => ?_, fun c77 => ?_⟩
            · try simp only [Int32.lt_iff_toInt_lt, Int32.le_iff_toInt_le, ← Int32.toInt_inj, Int32.toInt_toInt64, tiA, tlA] at c77
              unfold w_X9_read_b84
              unfold w_X9_read_b85
              intro it116 em117
              have hI118 : I9 lg57 it116 := by rw [em117]; exact i9_u hI55 (ok9_b (a := 0) (b := 100) rfl (by first | decide | ((try simp only [Int32.lt_iff_toInt_lt, Int32.le_iff_toInt_le, ← Int32.toInt_inj, Int32.toInt_toInt64, tiA, tlA]); omega) | (split <;> (try simp only [Int32.lt_iff_toInt_lt, Int32.le_iff_toInt_le, ← Int32.toInt_inj, Int32.toInt_toInt64, tiA, tlA]) <;> omega))) (by decide) (fun _ => by decide)
              have hK119 : Kd (fun j => j = 514 ∨ j = 515 ∨ j = 516 ∨ j = 517 ∨ j = 490 ∨ j = 491 ∨ j = 492 ∨ j = 493 ∨ j = 494 ∨ j = 501 ∨ j = 502 ∨ j = 503 ∨ j = 504 ∨ j = 505 ∨ j = 506 ∨ j = 507 ∨ j = 508 ∨ j = 509 ∨ j = 510 ∨ j = 511 ∨ j = 512) (fun k => k = 0 ∨ k = 1 ∨ k = 2 ∨ k = 3 ∨ k = 18 ∨ k = 19 ∨ k = 20 ∨ k = 28 ∨ k = 29 ∨ k = 30 ∨ k = 31 ∨ k = 32 ∨ k = 33 ∨ k = 34 ∨ k = 35 ∨ k = 36 ∨ k = 37 ∨ k = 38 ∨ k = 39 ∨ k = 40 ∨ k = 41 ∨ k = 42 ∨ k = 43 ∨ k = 50 ∨ k = 51) lg0 it0 lg57 it116 := by rw [em117]; exact kd_uf (by first | decide | (dsimp only; decide) | omega | (dsimp only; omega)) hK56
              have e121 : (it116 489 51).toInt = (it58 489 51).toInt := by rw [em117]; exact congrArg Int32.toInt (u2_ne (by decide))
              have e122 : (it116 489 50).toInt = (0 : Int32).toInt := by rw [em117]; exact congrArg Int32.toInt u2_eq
              refine ⟨fun c92 => ?_, fun c92 => ?_⟩
              · exact absurd c92 (by decide)
              · skip
                have f123 : 0 ≤ (it116 489 51).toInt ∧ (it116 489 51).toInt ≤ 100 := i9_f hI118 (j := 489) (k := 51) rfl
                try have f124 : (((-10) - (it116 489 51)) : Int32).toInt = (-10) - ((it116 489 51)).toInt := sb32 (a := (-10)) (b := ((it116 489 51)).toInt) (ti_m10) (rfl) (by omega) (by omega)
                subst hp
                exact ⟨hI118, hK119⟩
            · try simp only [Int32.lt_iff_toInt_lt, Int32.le_iff_toInt_le, ← Int32.toInt_inj, Int32.toInt_toInt64, tiA, tlA] at c77
              unfold w_X9_read_b85
              intro it125 em126
              have hI127 : I9 lg57 it125 := by rw [em126]; exact i9_u hI55 (ok9_b (a := 0) (b := 100) rfl (by first | decide | ((try simp only [Int32.lt_iff_toInt_lt, Int32.le_iff_toInt_le, ← Int32.toInt_inj, Int32.toInt_toInt64, tiA, tlA]); omega) | (split <;> (try simp only [Int32.lt_iff_toInt_lt, Int32.le_iff_toInt_le, ← Int32.toInt_inj, Int32.toInt_toInt64, tiA, tlA]) <;> omega))) (by decide) (fun _ => by decide)
              have hK128 : Kd (fun j => j = 514 ∨ j = 515 ∨ j = 516 ∨ j = 517 ∨ j = 490 ∨ j = 491 ∨ j = 492 ∨ j = 493 ∨ j = 494 ∨ j = 501 ∨ j = 502 ∨ j = 503 ∨ j = 504 ∨ j = 505 ∨ j = 506 ∨ j = 507 ∨ j = 508 ∨ j = 509 ∨ j = 510 ∨ j = 511 ∨ j = 512) (fun k => k = 0 ∨ k = 1 ∨ k = 2 ∨ k = 3 ∨ k = 18 ∨ k = 19 ∨ k = 20 ∨ k = 28 ∨ k = 29 ∨ k = 30 ∨ k = 31 ∨ k = 32 ∨ k = 33 ∨ k = 34 ∨ k = 35 ∨ k = 36 ∨ k = 37 ∨ k = 38 ∨ k = 39 ∨ k = 40 ∨ k = 41 ∨ k = 42 ∨ k = 43 ∨ k = 50 ∨ k = 51) lg0 it0 lg57 it125 := by rw [em126]; exact kd_uf (by first | decide | (dsimp only; decide) | omega | (dsimp only; omega)) hK56
              have e130 : (it125 489 51).toInt = (it58 489 51).toInt := by rw [em126]; exact congrArg Int32.toInt (u2_ne (by decide))
              have e131 : (it125 489 50).toInt = (0 : Int32).toInt := by rw [em126]; exact congrArg Int32.toInt u2_eq
              refine ⟨fun c92 => ?_, fun c92 => ?_⟩
              · skip
                have lp109 : ∀ (n : Nat) (x1 : Int32) (x4 : Int32) (x5 : Int32) (lg : LGt) (it : ITt), I9 lg it → Kd (fun j => j = 514 ∨ j = 515 ∨ j = 516 ∨ j = 517 ∨ j = 490 ∨ j = 491 ∨ j = 492 ∨ j = 493 ∨ j = 494 ∨ j = 501 ∨ j = 502 ∨ j = 503 ∨ j = 504 ∨ j = 505 ∨ j = 506 ∨ j = 507 ∨ j = 508 ∨ j = 509 ∨ j = 510 ∨ j = 511 ∨ j = 512) (fun k => k = 0 ∨ k = 1 ∨ k = 2 ∨ k = 3 ∨ k = 18 ∨ k = 19 ∨ k = 20 ∨ k = 28 ∨ k = 29 ∨ k = 30 ∨ k = 31 ∨ k = 32 ∨ k = 33 ∨ k = 34 ∨ k = 35 ∨ k = 36 ∨ k = 37 ∨ k = 38 ∨ k = 39 ∨ k = 40 ∨ k = 41 ∨ k = 42 ∨ k = 43 ∨ k = 50 ∨ k = 51) lg0 it0 lg it → ((0 ≤ (x5).toInt) ∧ ((x1).toInt ≤ 12)) → (13 - (x5).toInt).toNat < n → w_X9_read_b109  Pz  n x1 x4 x5 lg it := by
                  intro n109
                  induction n109 with
                  | zero => intro x1 x4 x5 lg it _ _ _ hn; exact absurd hn (Nat.not_lt_zero _)
                  | succ n109 ih109 =>
                    intro x1 x4 x5 lg134 it135 hI132 hK133 hv hn
                    unfold w_X9_read_b109
                    obtain ⟨hv109_0, hv109_1⟩ := hv
                    refine ⟨fun c112 => ?_, fun c112 => ?_⟩
                    · try simp only [Int32.lt_iff_toInt_lt, Int32.le_iff_toInt_le, ← Int32.toInt_inj, Int32.toInt_toInt64, tiA, tlA] at c112
                      subst hp
                      exact ⟨hI132, hK133⟩
                    · try simp only [Int32.lt_iff_toInt_lt, Int32.le_iff_toInt_le, ← Int32.toInt_inj, Int32.toInt_toInt64, tiA, tlA] at c112
                      refine ⟨_, s_X9_isDone  (x5) hI132 (by omega), ?_⟩
                      intro v141 lg136 it137 hq
                      obtain ⟨⟨hI138, hK139⟩, ha142⟩ := hq
                      have hK140 : Kd (fun j => j = 514 ∨ j = 515 ∨ j = 516 ∨ j = 517 ∨ j = 490 ∨ j = 491 ∨ j = 492 ∨ j = 493 ∨ j = 494 ∨ j = 501 ∨ j = 502 ∨ j = 503 ∨ j = 504 ∨ j = 505 ∨ j = 506 ∨ j = 507 ∨ j = 508 ∨ j = 509 ∨ j = 510 ∨ j = 511 ∨ j = 512) (fun k => k = 0 ∨ k = 1 ∨ k = 2 ∨ k = 3 ∨ k = 18 ∨ k = 19 ∨ k = 20 ∨ k = 28 ∨ k = 29 ∨ k = 30 ∨ k = 31 ∨ k = 32 ∨ k = 33 ∨ k = 34 ∨ k = 35 ∨ k = 36 ∨ k = 37 ∨ k = 38 ∨ k = 39 ∨ k = 40 ∨ k = 41 ∨ k = 42 ∨ k = 43 ∨ k = 50 ∨ k = 51) lg0 it0 lg136 it137 := kd_t hK133 hK139 (fun j hj => by first | omega | exact False.elim hj | (dsimp only at hj ⊢; omega)) (fun j hj => by first | omega | exact False.elim hj | (dsimp only at hj ⊢; omega))
                      try have e143 : (it137 489 50).toInt = (it135 489 50).toInt := congrArg Int32.toInt (hK139.2 50 (by first | decide | (dsimp only; decide) | omega | (dsimp only; omega))).2
                      try have e144 : (it137 489 51).toInt = (it135 489 51).toInt := congrArg Int32.toInt (hK139.2 51 (by first | decide | (dsimp only; decide) | omega | (dsimp only; omega))).2
                      refine ⟨fun c123 => ?_, fun c123 => ?_⟩
                      · try simp only [Int32.lt_iff_toInt_lt, Int32.le_iff_toInt_le, ← Int32.toInt_inj, Int32.toInt_toInt64, tiA, tlA] at c123
                        try have f145 : ((x4 + 0) : Int32).toInt = (x4).toInt + 0 := ad32 (a := (x4).toInt) (b := 0) (rfl) (ti_0) (by omega) (by omega)
                        try have f146 : ((x5 + 1) : Int32).toInt = (x5).toInt + 1 := ad32 (a := (x5).toInt) (b := 1) (rfl) (ti_1) (by omega) (by omega)
                        exact ih109 (x1) ((x4 + 0)) ((x5 + 1)) _ _ hI138 hK140 (by refine ⟨?_, ?_⟩ <;> first | exact Nx_0 | omega | assumption | exact Or.inl rfl | exact Or.inr rfl | exact i8_1 (by assumption) (by assumption) | decide) (by omega)
                      · try simp only [Int32.lt_iff_toInt_lt, Int32.le_iff_toInt_le, ← Int32.toInt_inj, Int32.toInt_toInt64, tiA, tlA] at c123
                        try have f147 : ((x4 + 1) : Int32).toInt = (x4).toInt + 1 := ad32 (a := (x4).toInt) (b := 1) (rfl) (ti_1) (by omega) (by omega)
                        try have f148 : ((x5 + 1) : Int32).toInt = (x5).toInt + 1 := ad32 (a := (x5).toInt) (b := 1) (rfl) (ti_1) (by omega) (by omega)
                        exact ih109 (x1) ((x4 + 1)) ((x5 + 1)) _ _ hI138 hK140 (by refine ⟨?_, ?_⟩ <;> first | exact Nx_0 | omega | assumption | exact Or.inl rfl | exact Or.inr rfl | exact i8_1 (by assumption) (by assumption) | decide) (by omega)
                have t149 := ti_0
                have t150 := ti_0
                exact ⟨_, lp109 ((13 - ((0 : Int32)).toInt).toNat + 1) (x1) ((0 : Int32)) ((0 : Int32)) _ _ hI127 hK128 (by refine ⟨?_, ?_⟩ <;> first | exact Nx_0 | omega | assumption | exact Or.inl rfl | exact Or.inr rfl | exact i8_1 (by assumption) (by assumption) | decide) (Nat.lt_succ_self _)⟩
              · exact absurd c92 (by decide)
        · try simp only [Int32.lt_iff_toInt_lt, Int32.le_iff_toInt_le, ← Int32.toInt_inj, Int32.toInt_toInt64, tiA, tlA] at c16
          refine ⟨_, s_X9_clause  (x1) hI55 (by omega) (by omega), ?_⟩
          intro v156 lg151 it152 hq
          obtain ⟨⟨hI153, hK154⟩, ha157⟩ := hq
          have hK155 : Kd (fun j => j = 514 ∨ j = 515 ∨ j = 516 ∨ j = 517 ∨ j = 490 ∨ j = 491 ∨ j = 492 ∨ j = 493 ∨ j = 494 ∨ j = 501 ∨ j = 502 ∨ j = 503 ∨ j = 504 ∨ j = 505 ∨ j = 506 ∨ j = 507 ∨ j = 508 ∨ j = 509 ∨ j = 510 ∨ j = 511 ∨ j = 512) (fun k => k = 0 ∨ k = 1 ∨ k = 2 ∨ k = 3 ∨ k = 18 ∨ k = 19 ∨ k = 20 ∨ k = 28 ∨ k = 29 ∨ k = 30 ∨ k = 31 ∨ k = 32 ∨ k = 33 ∨ k = 34 ∨ k = 35 ∨ k = 36 ∨ k = 37 ∨ k = 38 ∨ k = 39 ∨ k = 40 ∨ k = 41 ∨ k = 42 ∨ k = 43 ∨ k = 50 ∨ k = 51) lg0 it0 lg151 it152 := kd_t hK56 hK154 (fun j hj => by first | omega | exact False.elim hj | (dsimp only at hj ⊢; omega)) (fun j hj => by first | omega | exact False.elim hj | (dsimp only at hj ⊢; omega))
          try have e158 : (it152 489 50).toInt = (it58 489 50).toInt := congrArg Int32.toInt (hK154.2 50 (by first | decide | (dsimp only; decide) | omega | (dsimp only; omega))).2
          try have e159 : (it152 489 51).toInt = (it58 489 51).toInt := congrArg Int32.toInt (hK154.2 51 (by first | decide | (dsimp only; decide) | omega | (dsimp only; omega))).2
          have hb160 := ha157.1
          refine ⟨fun c27 => ?_, fun c27 => ?_⟩
          · try simp only [Int32.lt_iff_toInt_lt, Int32.le_iff_toInt_le, ← Int32.toInt_inj, Int32.toInt_toInt64, tiA, tlA] at c27
            unfold w_X9_read_b35
            try have f161 : ((x1 + (0 : Int32)) : Int32).toInt = (x1).toInt + ((0 : Int32)).toInt := ad32 (a := (x1).toInt) (b := ((0 : Int32)).toInt) (rfl) (rfl) (by omega) (by omega)
            refine ⟨fun c38 => ?_, fun c38 => ?_⟩
            · try simp only [Int32.lt_iff_toInt_lt, Int32.le_iff_toInt_le, ← Int32.toInt_inj, Int32.toInt_toInt64, tiA, tlA] at c38
              exact ih11 ((x1 + (0 : Int32))) ((0 : Int32)) (v156) _ _ hI153 hK155 (by refine ⟨?_, ?_, ?_, ?_, ?_, ?_⟩ <;> first | exact Nx_0 | omega | assumption | exact Or.inl rfl | exact Or.inr rfl | exact i8_1 (by assumption) (by assumption) | decide) (by omega)
            · try simp only [Int32.lt_iff_toInt_lt, Int32.le_iff_toInt_le, ← Int32.toInt_inj, Int32.toInt_toInt64, tiA, tlA] at c38
              refine ⟨fun c44 => ?_, fun c44 => ?_⟩
              · try simp only [Int32.lt_iff_toInt_lt, Int32.le_iff_toInt_le, ← Int32.toInt_inj, Int32.toInt_toInt64, tiA, tlA] at c44
                exact ih11 ((x1 + (0 : Int32))) ((0 : Int32)) (v156) _ _ hI153 hK155 (by refine ⟨?_, ?_, ?_, ?_, ?_, ?_⟩ <;> first | exact Nx_0 | omega | assumption | exact Or.inl rfl | exact Or.inr rfl | exact i8_1 (by assumption) (by assumption) | decide) (by omega)
              · try simp only [Int32.lt_iff_toInt_lt, Int32.le_iff_toInt_le, ← Int32.toInt_inj, Int32.toInt_toInt64, tiA, tlA] at c44
                refine ⟨_, s_X9_isSign  ((59 : Int32)) hI153 (by omega), ?_⟩
                intro v167 lg162 it163 hq
                obtain ⟨⟨hI164, hK165⟩, ha168⟩ := hq
                have hK166 : Kd (fun j => j = 514 ∨ j = 515 ∨ j = 516 ∨ j = 517 ∨ j = 490 ∨ j = 491 ∨ j = 492 ∨ j = 493 ∨ j = 494 ∨ j = 501 ∨ j = 502 ∨ j = 503 ∨ j = 504 ∨ j = 505 ∨ j = 506 ∨ j = 507 ∨ j = 508 ∨ j = 509 ∨ j = 510 ∨ j = 511 ∨ j = 512) (fun k => k = 0 ∨ k = 1 ∨ k = 2 ∨ k = 3 ∨ k = 18 ∨ k = 19 ∨ k = 20 ∨ k = 28 ∨ k = 29 ∨ k = 30 ∨ k = 31 ∨ k = 32 ∨ k = 33 ∨ k = 34 ∨ k = 35 ∨ k = 36 ∨ k = 37 ∨ k = 38 ∨ k = 39 ∨ k = 40 ∨ k = 41 ∨ k = 42 ∨ k = 43 ∨ k = 50 ∨ k = 51) lg0 it0 lg162 it163 := kd_t hK155 hK165 (fun j hj => by first | omega | exact False.elim hj | (dsimp only at hj ⊢; omega)) (fun j hj => by first | omega | exact False.elim hj | (dsimp only at hj ⊢; omega))
                try have e169 : (it163 489 50).toInt = (it152 489 50).toInt := congrArg Int32.toInt (hK165.2 50 (by first | decide | (dsimp only; decide) | omega | (dsimp only; omega))).2
                try have e170 : (it163 489 51).toInt = (it152 489 51).toInt := congrArg Int32.toInt (hK165.2 51 (by first | decide | (dsimp only; decide) | omega | (dsimp only; omega))).2
                have hb171 := ha168.1
                refine ⟨fun c53 => ?_, fun c53 => ?_⟩
                · try simp only [Int32.lt_iff_toInt_lt, Int32.le_iff_toInt_le, ← Int32.toInt_inj, Int32.toInt_toInt64, tiA, tlA] at c53
                  exact ih11 ((x1 + (0 : Int32))) ((0 : Int32)) (v156) _ _ hI164 hK166 (by refine ⟨?_, ?_, ?_, ?_, ?_, ?_⟩ <;> first | exact Nx_0 | omega | assumption | exact Or.inl rfl | exact Or.inr rfl | exact i8_1 (by assumption) (by assumption) | decide) (by omega)
                · try simp only [Int32.lt_iff_toInt_lt, Int32.le_iff_toInt_le, ← Int32.toInt_inj, Int32.toInt_toInt64, tiA, tlA] at c53
                  exact ih11 ((x1 + (0 : Int32))) ((1 : Int32)) (v156) _ _ hI164 hK166 (by refine ⟨?_, ?_, ?_, ?_, ?_, ?_⟩ <;> first | exact Nx_0 | omega | assumption | exact Or.inl rfl | exact Or.inr rfl | exact i8_1 (by assumption) (by assumption) | decide) (by omega)
          · try simp only [Int32.lt_iff_toInt_lt, Int32.le_iff_toInt_le, ← Int32.toInt_inj, Int32.toInt_toInt64, tiA, tlA] at c27
            unfold w_X9_read_b35
            try have f172 : ((x1 + (1 : Int32)) : Int32).toInt = (x1).toInt + ((1 : Int32)).toInt := ad32 (a := (x1).toInt) (b := ((1 : Int32)).toInt) (rfl) (rfl) (by omega) (by omega)
            refine ⟨fun c38 => ?_, fun c38 => ?_⟩
            · try simp only [Int32.lt_iff_toInt_lt, Int32.le_iff_toInt_le, ← Int32.toInt_inj, Int32.toInt_toInt64, tiA, tlA] at c38
              exact ih11 ((x1 + (1 : Int32))) ((0 : Int32)) (v156) _ _ hI153 hK155 (by refine ⟨?_, ?_, ?_, ?_, ?_, ?_⟩ <;> first | exact Nx_0 | omega | assumption | exact Or.inl rfl | exact Or.inr rfl | exact i8_1 (by assumption) (by assumption) | decide) (by omega)
            · try simp only [Int32.lt_iff_toInt_lt, Int32.le_iff_toInt_le, ← Int32.toInt_inj, Int32.toInt_toInt64, tiA, tlA] at c38
              refine ⟨fun c44 => ?_, fun c44 => ?_⟩
              · try simp only [Int32.lt_iff_toInt_lt, Int32.le_iff_toInt_le, ← Int32.toInt_inj, Int32.toInt_toInt64, tiA, tlA] at c44
                exact ih11 ((x1 + (1 : Int32))) ((0 : Int32)) (v156) _ _ hI153 hK155 (by refine ⟨?_, ?_, ?_, ?_, ?_, ?_⟩ <;> first | exact Nx_0 | omega | assumption | exact Or.inl rfl | exact Or.inr rfl | exact i8_1 (by assumption) (by assumption) | decide) (by omega)
              · try simp only [Int32.lt_iff_toInt_lt, Int32.le_iff_toInt_le, ← Int32.toInt_inj, Int32.toInt_toInt64, tiA, tlA] at c44
                refine ⟨_, s_X9_isSign  ((59 : Int32)) hI153 (by omega), ?_⟩
                intro v178 lg173 it174 hq
                obtain ⟨⟨hI175, hK176⟩, ha179⟩ := hq
                have hK177 : Kd (fun j => j = 514 ∨ j = 515 ∨ j = 516 ∨ j = 517 ∨ j = 490 ∨ j = 491 ∨ j = 492 ∨ j = 493 ∨ j = 494 ∨ j = 501 ∨ j = 502 ∨ j = 503 ∨ j = 504 ∨ j = 505 ∨ j = 506 ∨ j = 507 ∨ j = 508 ∨ j = 509 ∨ j = 510 ∨ j = 511 ∨ j = 512) (fun k => k = 0 ∨ k = 1 ∨ k = 2 ∨ k = 3 ∨ k = 18 ∨ k = 19 ∨ k = 20 ∨ k = 28 ∨ k = 29 ∨ k = 30 ∨ k = 31 ∨ k = 32 ∨ k = 33 ∨ k = 34 ∨ k = 35 ∨ k = 36 ∨ k = 37 ∨ k = 38 ∨ k = 39 ∨ k = 40 ∨ k = 41 ∨ k = 42 ∨ k = 43 ∨ k = 50 ∨ k = 51) lg0 it0 lg173 it174 := kd_t hK155 hK176 (fun j hj => by first | omega | exact False.elim hj | (dsimp only at hj ⊢; omega)) (fun j hj => by first | omega | exact False.elim hj | (dsimp only at hj ⊢; omega))
                try have e180 : (it174 489 50).toInt = (it152 489 50).toInt := congrArg Int32.toInt (hK176.2 50 (by first | decide | (dsimp only; decide) | omega | (dsimp only; omega))).2
                try have e181 : (it174 489 51).toInt = (it152 489 51).toInt := congrArg Int32.toInt (hK176.2 51 (by first | decide | (dsimp only; decide) | omega | (dsimp only; omega))).2
                have hb182 := ha179.1
                refine ⟨fun c53 => ?_, fun c53 => ?_⟩
                · try simp only [Int32.lt_iff_toInt_lt, Int32.le_iff_toInt_le, ← Int32.toInt_inj, Int32.toInt_toInt64, tiA, tlA] at c53
                  exact ih11 ((x1 + (1 : Int32))) ((0 : Int32)) (v156) _ _ hI175 hK177 (by refine ⟨?_, ?_, ?_, ?_, ?_, ?_⟩ <;> first | exact Nx_0 | omega | assumption | exact Or.inl rfl | exact Or.inr rfl | exact i8_1 (by assumption) (by assumption) | decide) (by omega)
                · try simp only [Int32.lt_iff_toInt_lt, Int32.le_iff_toInt_le, ← Int32.toInt_inj, Int32.toInt_toInt64, tiA, tlA] at c53
                  exact ih11 ((x1 + (1 : Int32))) ((1 : Int32)) (v156) _ _ hI175 hK177 (by refine ⟨?_, ?_, ?_, ?_, ?_, ?_⟩ <;> first | exact Nx_0 | omega | assumption | exact Or.inl rfl | exact Or.inr rfl | exact i8_1 (by assumption) (by assumption) | decide) (by omega)
  have t183 := ti_0
  have t184 := ti_1
  have t185 := ti_1
  exact ⟨_, lp11 ((2 * (13 - ((0 : Int32)).toInt) + ((1 : Int32)).toInt).toNat + 1) ((0 : Int32)) ((1 : Int32)) ((1 : Int32)) _ _ hI50 hK51 (by refine ⟨?_, ?_, ?_, ?_, ?_, ?_⟩ <;> first | exact Nx_0 | omega | assumption | exact Or.inl rfl | exact Or.inr rfl | exact i8_1 (by assumption) (by assumption) | decide) (Nat.lt_succ_self _)⟩
set_option maxRecDepth 100000 in
theorem s_X9_fits (a1 : Int32) (a2 : Int32) {lg0 : LGt} {it0 : ITt} (hI : I9 lg0 it0) : w_X9_fits a1 a2 (fun (v : Int32) (lg' : LGt) (it' : ITt) => (I9 lg' it' ∧ Kd (fun j => j = 501 ∨ j = 502 ∨ j = 503 ∨ j = 504 ∨ j = 505 ∨ j = 506 ∨ j = 507 ∨ j = 508 ∨ j = 509 ∨ j = 510 ∨ j = 511 ∨ j = 512) (fun k => k = 18 ∨ k = 19 ∨ k = 20 ∨ k = 28 ∨ k = 29 ∨ k = 30 ∨ k = 31 ∨ k = 32 ∨ k = 33 ∨ k = 34 ∨ k = 35 ∨ k = 36 ∨ k = 37 ∨ k = 38 ∨ k = 39 ∨ k = 40 ∨ k = 41 ∨ k = 42 ∨ k = 43) lg0 it0 lg' it'))  lg0 it0 := by
  have hb_a1 := And.intro a1.le_toInt a1.toInt_lt
  have hb_a2 := And.intro a2.le_toInt a2.toInt_lt
  have hKr : Kd (fun j => j = 501 ∨ j = 502 ∨ j = 503 ∨ j = 504 ∨ j = 505 ∨ j = 506 ∨ j = 507 ∨ j = 508 ∨ j = 509 ∨ j = 510 ∨ j = 511 ∨ j = 512) (fun k => k = 18 ∨ k = 19 ∨ k = 20 ∨ k = 28 ∨ k = 29 ∨ k = 30 ∨ k = 31 ∨ k = 32 ∨ k = 33 ∨ k = 34 ∨ k = 35 ∨ k = 36 ∨ k = 37 ∨ k = 38 ∨ k = 39 ∨ k = 40 ∨ k = 41 ∨ k = 42 ∨ k = 43) lg0 it0 lg0 it0 := kd_r
  generalize hp : (fun (v : Int32) (lg' : LGt) (it' : ITt) => (I9 lg' it' ∧ Kd (fun j => j = 501 ∨ j = 502 ∨ j = 503 ∨ j = 504 ∨ j = 505 ∨ j = 506 ∨ j = 507 ∨ j = 508 ∨ j = 509 ∨ j = 510 ∨ j = 511 ∨ j = 512) (fun k => k = 18 ∨ k = 19 ∨ k = 20 ∨ k = 28 ∨ k = 29 ∨ k = 30 ∨ k = 31 ∨ k = 32 ∨ k = 33 ∨ k = 34 ∨ k = 35 ∨ k = 36 ∨ k = 37 ∨ k = 38 ∨ k = 39 ∨ k = 40 ∨ k = 41 ∨ k = 42 ∨ k = 43) lg0 it0 lg' it')) = Pz
  unfold w_X9_fits
  have t0 := ti_0
  have t9 := ti_9
  have tm1 := ti_m1
  have f0 := i9_f hI (j := 489) (k := 0) rfl
  have fB : (it0 489 0 - 1).toInt = (it0 489 0).toInt - 1 := sb32 rfl ti_1 (by omega) (by omega)
  have t5 := ti_5
  have tm5 := ti_m5
  have f47 : 0 ≤ (it0 489 0).toInt ∧ (it0 489 0).toInt ≤ 6 := i9_f hI (j := 489) (k := 0) rfl
  refine ⟨fun c5 => ?_, fun c5 => ?_⟩
  · try simp only [Int32.lt_iff_toInt_lt, Int32.le_iff_toInt_le, ← Int32.toInt_inj, Int32.toInt_toInt64, tiA, tlA] at c5
    subst hp
    exact ⟨hI, hKr⟩
  · try simp only [Int32.lt_iff_toInt_lt, Int32.le_iff_toInt_le, ← Int32.toInt_inj, Int32.toInt_toInt64, tiA, tlA] at c5
    refine ⟨fun c15 => ?_, fun c15 => ?_⟩
    · try simp only [Int32.lt_iff_toInt_lt, Int32.le_iff_toInt_le, ← Int32.toInt_inj, Int32.toInt_toInt64, tiA, tlA] at c15
      have lp29 : ∀ (n : Nat) (x3 : Int32) (x4 : Int32) (x5 : Int32) (lg : LGt) (it : ITt), I9 lg it → Kd (fun j => j = 501 ∨ j = 502 ∨ j = 503 ∨ j = 504 ∨ j = 505 ∨ j = 506 ∨ j = 507 ∨ j = 508 ∨ j = 509 ∨ j = 510 ∨ j = 511 ∨ j = 512) (fun k => k = 18 ∨ k = 19 ∨ k = 20 ∨ k = 28 ∨ k = 29 ∨ k = 30 ∨ k = 31 ∨ k = 32 ∨ k = 33 ∨ k = 34 ∨ k = 35 ∨ k = 36 ∨ k = 37 ∨ k = 38 ∨ k = 39 ∨ k = 40 ∨ k = 41 ∨ k = 42 ∨ k = 43) lg0 it0 lg it → ((-6 ≤ (x5).toInt) ∧ ((x5).toInt ≤ 5)) → ((x5).toInt + 6).toNat < n → w_X9_fits_b29 a1 a2 Pz  n x3 x4 x5 lg it := by
        intro n29
        induction n29 with
        | zero => intro x3 x4 x5 lg it _ _ _ hn; exact absurd hn (Nat.not_lt_zero _)
        | succ n29 ih29 =>
          intro x3 x4 x5 lg50 it51 hI48 hK49 hv hn
          unfold w_X9_fits_b29
          obtain ⟨hv29_0, hv29_1⟩ := hv
          refine ⟨fun c33 => ?_, fun c33 => ?_⟩
          · try simp only [Int32.lt_iff_toInt_lt, Int32.le_iff_toInt_le, ← Int32.toInt_inj, Int32.toInt_toInt64, tiA, tlA] at c33
            refine ⟨fun c133 => ?_, fun c133 => ?_⟩
            · try simp only [Int32.lt_iff_toInt_lt, Int32.le_iff_toInt_le, ← Int32.toInt_inj, Int32.toInt_toInt64, tiA, tlA] at c133
              subst hp
              exact ⟨hI48, hK49⟩
            · try simp only [Int32.lt_iff_toInt_lt, Int32.le_iff_toInt_le, ← Int32.toInt_inj, Int32.toInt_toInt64, tiA, tlA] at c133
              subst hp
              exact ⟨hI48, hK49⟩
          · try simp only [Int32.lt_iff_toInt_lt, Int32.le_iff_toInt_le, ← Int32.toInt_inj, Int32.toInt_toInt64, tiA, tlA] at c33
            refine ⟨_, s_X9_minds   hI48 , ?_⟩
            intro lg52 it53 hq
            obtain ⟨⟨hI54, hK55⟩, ha58⟩ := hq
            have hK56 : Kd (fun j => j = 501 ∨ j = 502 ∨ j = 503 ∨ j = 504 ∨ j = 505 ∨ j = 506 ∨ j = 507 ∨ j = 508 ∨ j = 509 ∨ j = 510 ∨ j = 511 ∨ j = 512) (fun k => k = 18 ∨ k = 19 ∨ k = 20 ∨ k = 28 ∨ k = 29 ∨ k = 30 ∨ k = 31 ∨ k = 32 ∨ k = 33 ∨ k = 34 ∨ k = 35 ∨ k = 36 ∨ k = 37 ∨ k = 38 ∨ k = 39 ∨ k = 40 ∨ k = 41 ∨ k = 42 ∨ k = 43) lg0 it0 lg52 it53 := kd_t hK49 hK55 (fun j hj => by first | omega | exact False.elim hj | (dsimp only at hj ⊢; omega)) (fun j hj => by first | omega | exact False.elim hj | (dsimp only at hj ⊢; omega))
            try have e59 : (it53 489 0).toInt = (it51 489 0).toInt := congrArg Int32.toInt (hK55.2 0 (by first | decide | (dsimp only; decide) | omega | (dsimp only; omega))).2
            refine ⟨_, s_X9_becomes  (a1) (x5.toInt64) ((1 : Int64)) hI54 (by first | omega | (constructor <;> first | decide | omega | ((try simp only [Int32.lt_iff_toInt_lt, Int32.le_iff_toInt_le, ← Int32.toInt_inj, Int32.toInt_toInt64, tiA, tlA]); omega))) (by decide), ?_⟩
            intro lg60 it61 hq
            obtain ⟨⟨hI62, hK63⟩, ha66⟩ := hq
            have hK64 : Kd (fun j => j = 501 ∨ j = 502 ∨ j = 503 ∨ j = 504 ∨ j = 505 ∨ j = 506 ∨ j = 507 ∨ j = 508 ∨ j = 509 ∨ j = 510 ∨ j = 511 ∨ j = 512) (fun k => k = 18 ∨ k = 19 ∨ k = 20 ∨ k = 28 ∨ k = 29 ∨ k = 30 ∨ k = 31 ∨ k = 32 ∨ k = 33 ∨ k = 34 ∨ k = 35 ∨ k = 36 ∨ k = 37 ∨ k = 38 ∨ k = 39 ∨ k = 40 ∨ k = 41 ∨ k = 42 ∨ k = 43) lg0 it0 lg60 it61 := kd_t hK56 hK63 (fun j hj => by first | omega | exact False.elim hj | (dsimp only at hj ⊢; omega)) (fun j hj => by first | omega | exact False.elim hj | (dsimp only at hj ⊢; omega))
            try have e67 : (it61 489 0).toInt = (it53 489 0).toInt := congrArg Int32.toInt (hK63.2 0 (by first | decide | (dsimp only; decide) | omega | (dsimp only; omega))).2
            have PT68 : T9 lg60 it61 := ha66 ha58
            refine ⟨_, s_X9_goesOn  ((20 : Int32)) hI62 (PT68) (by first | decide | omega | ((try simp only [Int32.lt_iff_toInt_lt, Int32.le_iff_toInt_le, ← Int32.toInt_inj, Int32.toInt_toInt64, tiA, tlA]); omega)), ?_⟩
            intro lg69 it70 hq
            obtain ⟨⟨hI71, hK72⟩, ha75⟩ := hq
            have hK73 : Kd (fun j => j = 501 ∨ j = 502 ∨ j = 503 ∨ j = 504 ∨ j = 505 ∨ j = 506 ∨ j = 507 ∨ j = 508 ∨ j = 509 ∨ j = 510 ∨ j = 511 ∨ j = 512) (fun k => k = 18 ∨ k = 19 ∨ k = 20 ∨ k = 28 ∨ k = 29 ∨ k = 30 ∨ k = 31 ∨ k = 32 ∨ k = 33 ∨ k = 34 ∨ k = 35 ∨ k = 36 ∨ k = 37 ∨ k = 38 ∨ k = 39 ∨ k = 40 ∨ k = 41 ∨ k = 42 ∨ k = 43) lg0 it0 lg69 it70 := kd_t hK64 hK72 (fun j hj => by first | omega | exact False.elim hj | (dsimp only at hj ⊢; omega)) (fun j hj => by first | omega | exact False.elim hj | (dsimp only at hj ⊢; omega))
            try have e76 : (it70 489 0).toInt = (it61 489 0).toInt := congrArg Int32.toInt (hK72.2 0 (by first | decide | (dsimp only; decide) | omega | (dsimp only; omega))).2
            have lp61 : ∀ (n : Nat) (x3 : Int32) (x4 : Int32) (x5 : Int32) (x6 : Int32) (x7 : Int32) (lg : LGt) (it : ITt), I9 lg it → Kd (fun j => j = 501 ∨ j = 502 ∨ j = 503 ∨ j = 504 ∨ j = 505 ∨ j = 506 ∨ j = 507 ∨ j = 508 ∨ j = 509 ∨ j = 510 ∨ j = 511 ∨ j = 512) (fun k => k = 18 ∨ k = 19 ∨ k = 20 ∨ k = 28 ∨ k = 29 ∨ k = 30 ∨ k = 31 ∨ k = 32 ∨ k = 33 ∨ k = 34 ∨ k = 35 ∨ k = 36 ∨ k = 37 ∨ k = 38 ∨ k = 39 ∨ k = 40 ∨ k = 41 ∨ k = 42 ∨ k = 43) lg0 it0 lg it → ((0 ≤ (x7).toInt) ∧ (-5 ≤ (x5).toInt) ∧ ((x5).toInt ≤ 5) ∧ (((x5).toInt + 6).toNat < n29 + 1)) → (6 - (x7).toInt).toNat < n → w_X9_fits_b61 a1 a2 Pz (w_X9_fits_b29 a1 a2 Pz  n29) n x3 x4 x5 x6 x7 lg it := by
              intro n61
              induction n61 with
              | zero => intro x3 x4 x5 x6 x7 lg it _ _ _ hn; exact absurd hn (Nat.not_lt_zero _)
              | succ n61 ih61 =>
                intro x3 x4 x5 x6 x7 lg79 it80 hI77 hK78 hv hn
                unfold w_X9_fits_b61
                obtain ⟨hv61_0, hv61_1, hv61_2, hv61_3⟩ := hv
                have f81 : 0 ≤ (it80 489 9).toInt ∧ (it80 489 9).toInt ≤ 5 := i9_f hI77 (j := 489) (k := 9) rfl
                refine ⟨fun c67 => ?_, fun c67 => ?_⟩
                · try simp only [Int32.lt_iff_toInt_lt, Int32.le_iff_toInt_le, ← Int32.toInt_inj, Int32.toInt_toInt64, tiA, tlA] at c67
                  refine ⟨fun c102 => ?_, fun c102 => ?_⟩
                  · try simp only [Int32.lt_iff_toInt_lt, Int32.le_iff_toInt_le, ← Int32.toInt_inj, Int32.toInt_toInt64, tiA, tlA] at c102
                    unfold w_X9_fits_b110
                    try have f82 : ((x3 + (0 : Int32)) : Int32).toInt = (x3).toInt + ((0 : Int32)).toInt := ad32 (a := (x3).toInt) (b := ((0 : Int32)).toInt) (rfl) (rfl) (by omega) (by omega)
                    refine ⟨fun c114 => ?_, fun c114 => ?_⟩
                    · try simp only [Int32.lt_iff_toInt_lt, Int32.le_iff_toInt_le, ← Int32.toInt_inj, Int32.toInt_toInt64, tiA, tlA] at c114
                      try have f83 : ((x5 - 1) : Int32).toInt = (x5).toInt - 1 := sb32 (a := (x5).toInt) (b := 1) (rfl) (ti_1) (by omega) (by omega)
                      exact ih29 ((x3 + (0 : Int32))) (x4) ((x5 - 1)) _ _ hI77 hK78 (by refine ⟨?_, ?_⟩ <;> first | exact Nx_0 | omega | assumption | exact Or.inl rfl | exact Or.inr rfl | exact i8_1 (by assumption) (by assumption) | decide) (by omega)
                    · try simp only [Int32.lt_iff_toInt_lt, Int32.le_iff_toInt_le, ← Int32.toInt_inj, Int32.toInt_toInt64, tiA, tlA] at c114
                      try have f84 : ((x5 - 1) : Int32).toInt = (x5).toInt - 1 := sb32 (a := (x5).toInt) (b := 1) (rfl) (ti_1) (by omega) (by omega)
                      exact ih29 ((x3 + (0 : Int32))) (x5) ((x5 - 1)) _ _ hI77 hK78 (by refine ⟨?_, ?_⟩ <;> first | exact Nx_0 | omega | assumption | exact Or.inl rfl | exact Or.inr rfl | exact i8_1 (by assumption) (by assumption) | decide) (by omega)
                  · try simp only [Int32.lt_iff_toInt_lt, Int32.le_iff_toInt_le, ← Int32.toInt_inj, Int32.toInt_toInt64, tiA, tlA] at c102
                    unfold w_X9_fits_b110
                    try have f85 : ((x3 + (1 : Int32)) : Int32).toInt = (x3).toInt + ((1 : Int32)).toInt := ad32 (a := (x3).toInt) (b := ((1 : Int32)).toInt) (rfl) (rfl) (by omega) (by omega)
                    refine ⟨fun c114 => ?_, fun c114 => ?_⟩
                    · try simp only [Int32.lt_iff_toInt_lt, Int32.le_iff_toInt_le, ← Int32.toInt_inj, Int32.toInt_toInt64, tiA, tlA] at c114
                      try have f86 : ((x5 - 1) : Int32).toInt = (x5).toInt - 1 := sb32 (a := (x5).toInt) (b := 1) (rfl) (ti_1) (by omega) (by omega)
                      exact ih29 ((x3 + (1 : Int32))) (x4) ((x5 - 1)) _ _ hI77 hK78 (by refine ⟨?_, ?_⟩ <;> first | exact Nx_0 | omega | assumption | exact Or.inl rfl | exact Or.inr rfl | exact i8_1 (by assumption) (by assumption) | decide) (by omega)
                    · try simp only [Int32.lt_iff_toInt_lt, Int32.le_iff_toInt_le, ← Int32.toInt_inj, Int32.toInt_toInt64, tiA, tlA] at c114
                      try have f87 : ((x5 - 1) : Int32).toInt = (x5).toInt - 1 := sb32 (a := (x5).toInt) (b := 1) (rfl) (ti_1) (by omega) (by omega)
                      exact ih29 ((x3 + (1 : Int32))) (x5) ((x5 - 1)) _ _ hI77 hK78 (by refine ⟨?_, ?_⟩ <;> first | exact Nx_0 | omega | assumption | exact Or.inl rfl | exact Or.inr rfl | exact i8_1 (by assumption) (by assumption) | decide) (by omega)
                · try simp only [Int32.lt_iff_toInt_lt, Int32.le_iff_toInt_le, ← Int32.toInt_inj, Int32.toInt_toInt64, tiA, tlA] at c67
                  have hi88 : vp_in x7 5 := vp_of (by first | omega | ((try simp only [Int32.lt_iff_toInt_lt, Int32.le_iff_toInt_le, ← Int32.toInt_inj, Int32.toInt_toInt64, tiA, tlA]); omega) | (split <;> omega)) (by first | omega | ((try simp only [Int32.lt_iff_toInt_lt, Int32.le_iff_toInt_le, ← Int32.toInt_inj, Int32.toInt_toInt64, tiA, tlA]); omega) | (split <;> omega))
                  refine ⟨hi88, ?_⟩
                  have hz89 := vlt hi88
                  have f90 : 0 ≤ (it80 495 x7.toNatClampNeg).toInt ∧ (it80 495 x7.toNatClampNeg).toInt ≤ 19 := i9_f hI77 (j := 495) (k := x7.toNatClampNeg) rfl
                  have hi91 : vp_in x7 5 := vp_of (by first | omega | ((try simp only [Int32.lt_iff_toInt_lt, Int32.le_iff_toInt_le, ← Int32.toInt_inj, Int32.toInt_toInt64, tiA, tlA]); omega) | (split <;> omega)) (by first | omega | ((try simp only [Int32.lt_iff_toInt_lt, Int32.le_iff_toInt_le, ← Int32.toInt_inj, Int32.toInt_toInt64, tiA, tlA]); omega) | (split <;> omega))
                  refine ⟨hi91, ?_⟩
                  have hz92 := vlt hi91
                  refine ⟨_, s_X9_isStruck  ((it80 495 x7.toNatClampNeg)) ((it80 496 x7.toNatClampNeg)) hI77 (by omega), ?_⟩
                  intro v98 lg93 it94 hq
                  obtain ⟨⟨hI95, hK96⟩, ha99⟩ := hq
                  have hK97 : Kd (fun j => j = 501 ∨ j = 502 ∨ j = 503 ∨ j = 504 ∨ j = 505 ∨ j = 506 ∨ j = 507 ∨ j = 508 ∨ j = 509 ∨ j = 510 ∨ j = 511 ∨ j = 512) (fun k => k = 18 ∨ k = 19 ∨ k = 20 ∨ k = 28 ∨ k = 29 ∨ k = 30 ∨ k = 31 ∨ k = 32 ∨ k = 33 ∨ k = 34 ∨ k = 35 ∨ k = 36 ∨ k = 37 ∨ k = 38 ∨ k = 39 ∨ k = 40 ∨ k = 41 ∨ k = 42 ∨ k = 43) lg0 it0 lg93 it94 := kd_t hK78 hK96 (fun j hj => by first | omega | exact False.elim hj | (dsimp only at hj ⊢; omega)) (fun j hj => by first | omega | exact False.elim hj | (dsimp only at hj ⊢; omega))
                  try have e100 : (it94 489 0).toInt = (it80 489 0).toInt := congrArg Int32.toInt (hK96.2 0 (by first | decide | (dsimp only; decide) | omega | (dsimp only; omega))).2
                  try have e101 : (it94 489 9).toInt = (it80 489 9).toInt := congrArg Int32.toInt (hK96.2 9 (by first | decide | (dsimp only; decide) | omega | (dsimp only; omega))).2
                  try have f102 : ((x7 + 1) : Int32).toInt = (x7).toInt + 1 := ad32 (a := (x7).toInt) (b := 1) (rfl) (ti_1) (by omega) (by omega)
                  exact ih61 (x3) (x4) (x5) ((x6 &&& v98)) ((x7 + 1)) _ _ hI95 hK97 (by refine ⟨?_, ?_, ?_, ?_⟩ <;> first | exact Nx_0 | omega | assumption | exact Or.inl rfl | exact Or.inr rfl | exact i8_1 (by assumption) (by assumption) | decide) (by omega)
            have t103 := ti_1
            have t104 := ti_0
            exact ⟨_, lp61 ((6 - ((0 : Int32)).toInt).toNat + 1) (x3) (x4) (x5) ((1 : Int32)) ((0 : Int32)) _ _ hI71 hK73 (by refine ⟨?_, ?_, ?_, ?_⟩ <;> first | exact Nx_0 | omega | assumption | exact Or.inl rfl | exact Or.inr rfl | exact i8_1 (by assumption) (by assumption) | decide) (Nat.lt_succ_self _)⟩
      have t105 := ti_0
      have t106 := ti_m10
      have t107 := ti_5
      exact ⟨_, lp29 ((((5 : Int32)).toInt + 6).toNat + 1) ((0 : Int32)) (((-10) : Int32)) ((5 : Int32)) _ _ hI hKr (by refine ⟨?_, ?_⟩ <;> first | exact Nx_0 | omega | assumption | exact Or.inl rfl | exact Or.inr rfl | exact i8_1 (by assumption) (by assumption) | decide) (Nat.lt_succ_self _)⟩
    · try simp only [Int32.lt_iff_toInt_lt, Int32.le_iff_toInt_le, ← Int32.toInt_inj, Int32.toInt_toInt64, tiA, tlA] at c15
      subst hp
      exact ⟨hI, hKr⟩
set_option maxRecDepth 100000 in
theorem s_X9_at (a1 : Int32) (a2 : Int32) (a3 : Int32) {lg0 : LGt} {it0 : ITt} (hI : I9 lg0 it0) : w_X9_at a1 a2 a3 (fun (v : Int64) (lg' : LGt) (it' : ITt) => (I9 lg' it' ∧ Kd (fun j => j = 501 ∨ j = 502 ∨ j = 503 ∨ j = 504 ∨ j = 505 ∨ j = 506 ∨ j = 507 ∨ j = 508 ∨ j = 509 ∨ j = 510 ∨ j = 511 ∨ j = 512) (fun k => k = 18 ∨ k = 19 ∨ k = 20 ∨ k = 28 ∨ k = 29 ∨ k = 30 ∨ k = 31 ∨ k = 32 ∨ k = 33 ∨ k = 34 ∨ k = 35 ∨ k = 36 ∨ k = 37 ∨ k = 38 ∨ k = 39 ∨ k = 40 ∨ k = 41 ∨ k = 42 ∨ k = 43) lg0 it0 lg' it'))  lg0 it0 := by
  have hb_a1 := And.intro a1.le_toInt a1.toInt_lt
  have hb_a2 := And.intro a2.le_toInt a2.toInt_lt
  have hb_a3 := And.intro a3.le_toInt a3.toInt_lt
  have hKr : Kd (fun j => j = 501 ∨ j = 502 ∨ j = 503 ∨ j = 504 ∨ j = 505 ∨ j = 506 ∨ j = 507 ∨ j = 508 ∨ j = 509 ∨ j = 510 ∨ j = 511 ∨ j = 512) (fun k => k = 18 ∨ k = 19 ∨ k = 20 ∨ k = 28 ∨ k = 29 ∨ k = 30 ∨ k = 31 ∨ k = 32 ∨ k = 33 ∨ k = 34 ∨ k = 35 ∨ k = 36 ∨ k = 37 ∨ k = 38 ∨ k = 39 ∨ k = 40 ∨ k = 41 ∨ k = 42 ∨ k = 43) lg0 it0 lg0 it0 := kd_r
  generalize hp : (fun (v : Int64) (lg' : LGt) (it' : ITt) => (I9 lg' it' ∧ Kd (fun j => j = 501 ∨ j = 502 ∨ j = 503 ∨ j = 504 ∨ j = 505 ∨ j = 506 ∨ j = 507 ∨ j = 508 ∨ j = 509 ∨ j = 510 ∨ j = 511 ∨ j = 512) (fun k => k = 18 ∨ k = 19 ∨ k = 20 ∨ k = 28 ∨ k = 29 ∨ k = 30 ∨ k = 31 ∨ k = 32 ∨ k = 33 ∨ k = 34 ∨ k = 35 ∨ k = 36 ∨ k = 37 ∨ k = 38 ∨ k = 39 ∨ k = 40 ∨ k = 41 ∨ k = 42 ∨ k = 43) lg0 it0 lg' it')) = Pz
  have bl213 : ∀ (s0 : Int64) (s1 : Int64) (lg : LGt) (it : ITt), I9 lg it → Kd (fun j => j = 501 ∨ j = 502 ∨ j = 503 ∨ j = 504 ∨ j = 505 ∨ j = 506 ∨ j = 507 ∨ j = 508 ∨ j = 509 ∨ j = 510 ∨ j = 511 ∨ j = 512) (fun k => k = 18 ∨ k = 19 ∨ k = 20 ∨ k = 28 ∨ k = 29 ∨ k = 30 ∨ k = 31 ∨ k = 32 ∨ k = 33 ∨ k = 34 ∨ k = 35 ∨ k = 36 ∨ k = 37 ∨ k = 38 ∨ k = 39 ∨ k = 40 ∨ k = 41 ∨ k = 42 ∨ k = 43) lg0 it0 lg it → ((¬ s0 = 0) ∧ (¬ lg 489 19 = 0)) → w_X9_at_b213 a1 a2 a3 Pz  s0 s1 lg it := by
    intro s0 s1 lg97 it98 hI95 hK96 hv
    unfold w_X9_at_b213
    obtain ⟨hv213_0, hv213_1⟩ := hv
    have hc102 : o01 it98 := i9_o hI95
    refine ⟨hc102, ?_⟩
    have hc103 : ¬ s0 = 0 := by assumption
    refine ⟨hc103, ?_⟩
    have hc104 : ¬ (lg97 489 19) = 0 := by assumption
    refine ⟨hc104, ?_⟩
    intro q99 em_q99 lg100 em_lg100 it101 em_it101
    have hI105 : I9 lg100 it101 := by rw [em_lg100, em_it101]; exact i9_g hI95 (by rw [em_q99]; exact gP_o (i9_o hI95))
    have hK106 : Kd (fun j => j = 501 ∨ j = 502 ∨ j = 503 ∨ j = 504 ∨ j = 505 ∨ j = 506 ∨ j = 507 ∨ j = 508 ∨ j = 509 ∨ j = 510 ∨ j = 511 ∨ j = 512) (fun k => k = 18 ∨ k = 19 ∨ k = 20 ∨ k = 28 ∨ k = 29 ∨ k = 30 ∨ k = 31 ∨ k = 32 ∨ k = 33 ∨ k = 34 ∨ k = 35 ∨ k = 36 ∨ k = 37 ∨ k = 38 ∨ k = 39 ∨ k = 40 ∨ k = 41 ∨ k = 42 ∨ k = 43) lg0 it0 lg100 it101 := by rw [em_lg100, em_it101]; exact kd_g (by first | decide | (dsimp only; decide) | omega | (dsimp only; omega)) (by first | decide | (dsimp only; decide) | omega | (dsimp only; omega)) (by first | decide | (dsimp only; decide) | omega | (dsimp only; omega)) hK96
    have z19_lg100 : ¬ lg100 489 19 = 0 := by rw [em_lg100, setU_19, em_q99]; exact gP_d hc103 hc104
    have e107 : (it101 489 0).toInt = (it98 489 0).toInt := by rw [em_it101]; exact congrArg Int32.toInt (setO_c (by decide))
    have e108 : (it101 489 42).toInt = (it98 489 42).toInt := by rw [em_it101]; exact congrArg Int32.toInt (setO_c (by decide))
    have f109 : 0 ≤ (it101 489 20).toInt ∧ (it101 489 20).toInt ≤ 1 := i9_f hI105 (j := 489) (k := 20) rfl
    refine ⟨fun c228 => ?_, fun c228 => ?_⟩
    · try simp only [Int32.lt_iff_toInt_lt, Int32.le_iff_toInt_le, ← Int32.toInt_inj, Int32.toInt_toInt64, tiA, tlA] at c228
      unfold w_X9_at_b236
      intro it110 em111
      have hI112 : I9 lg100 it110 := by rw [em111]; exact i9_u hI105 (ok9_b (a := 0) (b := 1) rfl (by first | decide | ((try simp only [Int32.lt_iff_toInt_lt, Int32.le_iff_toInt_le, ← Int32.toInt_inj, Int32.toInt_toInt64, tiA, tlA]); omega) | (split <;> (try simp only [Int32.lt_iff_toInt_lt, Int32.le_iff_toInt_le, ← Int32.toInt_inj, Int32.toInt_toInt64, tiA, tlA]) <;> omega))) (by decide) (fun _ => by decide)
      have hK113 : Kd (fun j => j = 501 ∨ j = 502 ∨ j = 503 ∨ j = 504 ∨ j = 505 ∨ j = 506 ∨ j = 507 ∨ j = 508 ∨ j = 509 ∨ j = 510 ∨ j = 511 ∨ j = 512) (fun k => k = 18 ∨ k = 19 ∨ k = 20 ∨ k = 28 ∨ k = 29 ∨ k = 30 ∨ k = 31 ∨ k = 32 ∨ k = 33 ∨ k = 34 ∨ k = 35 ∨ k = 36 ∨ k = 37 ∨ k = 38 ∨ k = 39 ∨ k = 40 ∨ k = 41 ∨ k = 42 ∨ k = 43) lg0 it0 lg100 it110 := by rw [em111]; exact kd_uf (by first | decide | (dsimp only; decide) | omega | (dsimp only; omega)) hK106
      have e114 : (it110 489 0).toInt = (it101 489 0).toInt := by rw [em111]; exact congrArg Int32.toInt (u2_ne (by decide))
      have e115 : (it110 489 42).toInt = (it101 489 42).toInt := by rw [em111]; exact congrArg Int32.toInt (u2_ne (by decide))
      have Pz19117 : ¬ lg100 489 19 = 0 := z_c (z19_lg100) rfl
      have e118 : (it110 489 20).toInt = (0 : Int32).toInt := by rw [em111]; exact congrArg Int32.toInt u2_eq
      refine ⟨fun c245 => ?_, fun c245 => ?_⟩
      · skip
        subst hp
        exact ⟨hI112, hK113⟩
      · exact absurd c245 (by decide)
    · try simp only [Int32.lt_iff_toInt_lt, Int32.le_iff_toInt_le, ← Int32.toInt_inj, Int32.toInt_toInt64, tiA, tlA] at c228
      unfold w_X9_at_b236
      intro it119 em120
      have hI121 : I9 lg100 it119 := by rw [em120]; exact i9_u hI105 (ok9_b (a := 0) (b := 1) rfl (by first | decide | ((try simp only [Int32.lt_iff_toInt_lt, Int32.le_iff_toInt_le, ← Int32.toInt_inj, Int32.toInt_toInt64, tiA, tlA]); omega) | (split <;> (try simp only [Int32.lt_iff_toInt_lt, Int32.le_iff_toInt_le, ← Int32.toInt_inj, Int32.toInt_toInt64, tiA, tlA]) <;> omega))) (by decide) (fun _ => by decide)
      have hK122 : Kd (fun j => j = 501 ∨ j = 502 ∨ j = 503 ∨ j = 504 ∨ j = 505 ∨ j = 506 ∨ j = 507 ∨ j = 508 ∨ j = 509 ∨ j = 510 ∨ j = 511 ∨ j = 512) (fun k => k = 18 ∨ k = 19 ∨ k = 20 ∨ k = 28 ∨ k = 29 ∨ k = 30 ∨ k = 31 ∨ k = 32 ∨ k = 33 ∨ k = 34 ∨ k = 35 ∨ k = 36 ∨ k = 37 ∨ k = 38 ∨ k = 39 ∨ k = 40 ∨ k = 41 ∨ k = 42 ∨ k = 43) lg0 it0 lg100 it119 := by rw [em120]; exact kd_uf (by first | decide | (dsimp only; decide) | omega | (dsimp only; omega)) hK106
      have e123 : (it119 489 0).toInt = (it101 489 0).toInt := by rw [em120]; exact congrArg Int32.toInt (u2_ne (by decide))
      have e124 : (it119 489 42).toInt = (it101 489 42).toInt := by rw [em120]; exact congrArg Int32.toInt (u2_ne (by decide))
      have Pz19126 : ¬ lg100 489 19 = 0 := z_c (z19_lg100) rfl
      have e127 : (it119 489 20).toInt = (0 : Int32).toInt := by rw [em120]; exact congrArg Int32.toInt u2_eq
      refine ⟨fun c245 => ?_, fun c245 => ?_⟩
      · exact absurd c245 (by decide)
      · skip
        refine ⟨fun c249 => ?_, fun c249 => ?_⟩
        · try simp only [Int32.lt_iff_toInt_lt, Int32.le_iff_toInt_le, ← Int32.toInt_inj, Int32.toInt_toInt64, tiA, tlA] at c249
          subst hp
          exact ⟨hI121, hK122⟩
        · try simp only [Int32.lt_iff_toInt_lt, Int32.le_iff_toInt_le, ← Int32.toInt_inj, Int32.toInt_toInt64, tiA, tlA] at c249
          subst hp
          exact ⟨hI121, hK122⟩
  have bl192 : ∀ (x4 : Int32) (x5 : Int32) (s0 : Int64) (lg : LGt) (it : ITt), I9 lg it → Kd (fun j => j = 501 ∨ j = 502 ∨ j = 503 ∨ j = 504 ∨ j = 505 ∨ j = 506 ∨ j = 507 ∨ j = 508 ∨ j = 509 ∨ j = 510 ∨ j = 511 ∨ j = 512) (fun k => k = 18 ∨ k = 19 ∨ k = 20 ∨ k = 28 ∨ k = 29 ∨ k = 30 ∨ k = 31 ∨ k = 32 ∨ k = 33 ∨ k = 34 ∨ k = 35 ∨ k = 36 ∨ k = 37 ∨ k = 38 ∨ k = 39 ∨ k = 40 ∨ k = 41 ∨ k = 42 ∨ k = 43) lg0 it0 lg it → ((0 ≤ (x4).toInt) ∧ ((x4).toInt ≤ (it 489 42).toInt) ∧ ((x4).toInt ≤ 20) ∧ ((x5).toInt = 12 * ((x4).toInt - 1) + a1.toInt) ∧ (0 ≤ a1.toInt) ∧ (a1.toInt < (it 489 0).toInt) ∧ (B9 lg it) ∧ (¬ lg 489 19 = 0)) → w_X9_at_b192 a1 a2 a3 Pz  x4 x5 s0 lg it := by
    intro x4 x5 s0 lg130 it131 hI128 hK129 hv
    unfold w_X9_at_b192
    obtain ⟨hv192_0, hv192_1, hv192_2, hv192_3, hv192_4, hv192_5, hv192_6, hv192_7⟩ := hv
    have f0 := i9_f hI128 (j := 489) (k := 0) rfl
    have fx : (x4 - 1).toInt = x4.toInt - 1 := sb32 rfl ti_1 (by omega) (by omega)
    refine ⟨fun c194 => ?_, fun c194 => ?_⟩
    · try simp only [Int32.lt_iff_toInt_lt, Int32.le_iff_toInt_le, ← Int32.toInt_inj, Int32.toInt_toInt64, tiA, tlA] at c194
      have hi132 : vp_in x5 240 := vp_of (by first | omega | ((try simp only [Int32.lt_iff_toInt_lt, Int32.le_iff_toInt_le, ← Int32.toInt_inj, Int32.toInt_toInt64, tiA, tlA]); omega) | (split <;> omega)) (by first | omega | ((try simp only [Int32.lt_iff_toInt_lt, Int32.le_iff_toInt_le, ← Int32.toInt_inj, Int32.toInt_toInt64, tiA, tlA]); omega) | (split <;> omega))
      refine ⟨hi132, ?_⟩
      have hz133 := vlt hi132
      exact bl213 ((lg130 512 x5.toNatClampNeg)) (s0) _ _ hI128 hK129 ⟨B9_2 (s := (x4 - 1).toNatClampNeg) (i := (a1).toNatClampNeg) hv192_6 (by have z1 := cl32 (i := x4 - 1) (by omega); omega) (by have z1 := cl32 (i := x4 - 1) (by omega); omega) (by have z1 := cl32 (i := a1) (by omega); omega) (by have z1 := cl32 (i := a1) (by omega); omega) (by have z1 := cl32 (i := x4 - 1) (by omega); have z2 := cl32 (i := a1) (by omega); have z3 := cl32 (i := x5) (by omega); omega), by first | omega | assumption | exact Or.inl rfl | exact Or.inr rfl⟩
    · try simp only [Int32.lt_iff_toInt_lt, Int32.le_iff_toInt_le, ← Int32.toInt_inj, Int32.toInt_toInt64, tiA, tlA] at c194
      have hi134 : vp_in a1 6 := vp_of (by first | omega | ((try simp only [Int32.lt_iff_toInt_lt, Int32.le_iff_toInt_le, ← Int32.toInt_inj, Int32.toInt_toInt64, tiA, tlA]); omega) | (split <;> omega)) (by first | omega | ((try simp only [Int32.lt_iff_toInt_lt, Int32.le_iff_toInt_le, ← Int32.toInt_inj, Int32.toInt_toInt64, tiA, tlA]); omega) | (split <;> omega))
      refine ⟨hi134, ?_⟩
      have hz135 := vlt hi134
      exact bl213 ((lg130 492 a1.toNatClampNeg)) (s0) _ _ hI128 hK129 ⟨(hI128.2.2.1 (a1).toNatClampNeg (by have z1 := cl32 (i := a1) (by omega); omega) (by have z1 := cl32 (i := a1) (by omega); omega)).1.1, by first | omega | assumption | exact Or.inl rfl | exact Or.inr rfl⟩
  have bl159 : ∀ (x4 : Int32) (x5 : Int32) (s0 : Int64) (s1 : Int64) (lg : LGt) (it : ITt), I9 lg it → Kd (fun j => j = 501 ∨ j = 502 ∨ j = 503 ∨ j = 504 ∨ j = 505 ∨ j = 506 ∨ j = 507 ∨ j = 508 ∨ j = 509 ∨ j = 510 ∨ j = 511 ∨ j = 512) (fun k => k = 18 ∨ k = 19 ∨ k = 20 ∨ k = 28 ∨ k = 29 ∨ k = 30 ∨ k = 31 ∨ k = 32 ∨ k = 33 ∨ k = 34 ∨ k = 35 ∨ k = 36 ∨ k = 37 ∨ k = 38 ∨ k = 39 ∨ k = 40 ∨ k = 41 ∨ k = 42 ∨ k = 43) lg0 it0 lg it → ((0 ≤ (x4).toInt) ∧ ((x4).toInt ≤ (it 489 42).toInt) ∧ ((x4).toInt ≤ 20) ∧ ((x5).toInt = 12 * ((x4).toInt - 1) + a1.toInt) ∧ (0 ≤ a1.toInt) ∧ (a1.toInt < (it 489 0).toInt) ∧ (B9 lg it) ∧ (¬ lg 489 19 = 0) ∧ (¬ s0 = 0)) → w_X9_at_b159 a1 a2 a3 Pz  x4 x5 s0 s1 lg it := by
    intro x4 x5 s0 s1 lg138 it139 hI136 hK137 hv
    unfold w_X9_at_b159
    obtain ⟨hv159_0, hv159_1, hv159_2, hv159_3, hv159_4, hv159_5, hv159_6, hv159_7, hv159_8⟩ := hv
    have f0 := i9_f hI136 (j := 489) (k := 0) rfl
    have fx : (x4 - 1).toInt = x4.toInt - 1 := sb32 rfl ti_1 (by omega) (by omega)
    have hc143 : o01 it139 := i9_o hI136
    refine ⟨hc143, ?_⟩
    have hc144 : ¬ s0 = 0 := by assumption
    refine ⟨hc144, ?_⟩
    have hc145 : ¬ (lg138 489 19) = 0 := by assumption
    refine ⟨hc145, ?_⟩
    intro q140 em_q140 lg141 em_lg141 it142 em_it142
    have hI146 : I9 lg141 it142 := by rw [em_lg141, em_it142]; exact i9_g hI136 (by rw [em_q140]; exact gT_o (i9_o hI136))
    have hK147 : Kd (fun j => j = 501 ∨ j = 502 ∨ j = 503 ∨ j = 504 ∨ j = 505 ∨ j = 506 ∨ j = 507 ∨ j = 508 ∨ j = 509 ∨ j = 510 ∨ j = 511 ∨ j = 512) (fun k => k = 18 ∨ k = 19 ∨ k = 20 ∨ k = 28 ∨ k = 29 ∨ k = 30 ∨ k = 31 ∨ k = 32 ∨ k = 33 ∨ k = 34 ∨ k = 35 ∨ k = 36 ∨ k = 37 ∨ k = 38 ∨ k = 39 ∨ k = 40 ∨ k = 41 ∨ k = 42 ∨ k = 43) lg0 it0 lg141 it142 := by rw [em_lg141, em_it142]; exact kd_g (by first | decide | (dsimp only; decide) | omega | (dsimp only; omega)) (by first | decide | (dsimp only; decide) | omega | (dsimp only; omega)) (by first | decide | (dsimp only; decide) | omega | (dsimp only; omega)) hK137
    have z19_lg141 : ¬ lg141 489 19 = 0 := by rw [em_lg141, setU_19, em_q140]; exact gT_d hc144 hc145
    have e148 : (it142 489 0).toInt = (it139 489 0).toInt := by rw [em_it142]; exact congrArg Int32.toInt (setO_c (by decide))
    have e149 : (it142 489 42).toInt = (it139 489 42).toInt := by rw [em_it142]; exact congrArg Int32.toInt (setO_c (by decide))
    have PB150 : B9 lg141 it142 := B9_c hv159_6 (by rw [em_lg141]; exact setU_row (by decide)) (by rw [em_lg141]; exact setU_row (by decide)) (by rw [em_it142]; exact setO_c (by decide)) (by rw [em_it142]; exact setO_c (by decide))
    refine ⟨fun c173 => ?_, fun c173 => ?_⟩
    · try simp only [Int32.lt_iff_toInt_lt, Int32.le_iff_toInt_le, ← Int32.toInt_inj, Int32.toInt_toInt64, tiA, tlA] at c173
      have hi151 : vp_in x5 240 := vp_of (by first | omega | ((try simp only [Int32.lt_iff_toInt_lt, Int32.le_iff_toInt_le, ← Int32.toInt_inj, Int32.toInt_toInt64, tiA, tlA]); omega) | (split <;> omega)) (by first | omega | ((try simp only [Int32.lt_iff_toInt_lt, Int32.le_iff_toInt_le, ← Int32.toInt_inj, Int32.toInt_toInt64, tiA, tlA]); omega) | (split <;> omega))
      refine ⟨hi151, ?_⟩
      have hz152 := vlt hi151
      exact bl192 (x4) (x5) ((lg141 511 x5.toNatClampNeg)) _ _ hI146 hK147 (by refine ⟨?_, ?_, ?_, ?_, ?_, ?_, ?_, ?_⟩ <;> first | omega | assumption | exact Or.inl rfl | exact Or.inr rfl | decide)
    · try simp only [Int32.lt_iff_toInt_lt, Int32.le_iff_toInt_le, ← Int32.toInt_inj, Int32.toInt_toInt64, tiA, tlA] at c173
      have hi153 : vp_in a1 6 := vp_of (by first | omega | ((try simp only [Int32.lt_iff_toInt_lt, Int32.le_iff_toInt_le, ← Int32.toInt_inj, Int32.toInt_toInt64, tiA, tlA]); omega) | (split <;> omega)) (by first | omega | ((try simp only [Int32.lt_iff_toInt_lt, Int32.le_iff_toInt_le, ← Int32.toInt_inj, Int32.toInt_toInt64, tiA, tlA]); omega) | (split <;> omega))
      refine ⟨hi153, ?_⟩
      have hz154 := vlt hi153
      exact bl192 (x4) (x5) ((lg141 491 a1.toNatClampNeg)) _ _ hI146 hK147 (by refine ⟨?_, ?_, ?_, ?_, ?_, ?_, ?_, ?_⟩ <;> first | omega | assumption | exact Or.inl rfl | exact Or.inr rfl | decide)
  have bl135 : ∀ (x4 : Int32) (x5 : Int32) (s0 : Int64) (lg : LGt) (it : ITt), I9 lg it → Kd (fun j => j = 501 ∨ j = 502 ∨ j = 503 ∨ j = 504 ∨ j = 505 ∨ j = 506 ∨ j = 507 ∨ j = 508 ∨ j = 509 ∨ j = 510 ∨ j = 511 ∨ j = 512) (fun k => k = 18 ∨ k = 19 ∨ k = 20 ∨ k = 28 ∨ k = 29 ∨ k = 30 ∨ k = 31 ∨ k = 32 ∨ k = 33 ∨ k = 34 ∨ k = 35 ∨ k = 36 ∨ k = 37 ∨ k = 38 ∨ k = 39 ∨ k = 40 ∨ k = 41 ∨ k = 42 ∨ k = 43) lg0 it0 lg it → ((0 ≤ (x4).toInt) ∧ ((x4).toInt ≤ (it 489 42).toInt) ∧ ((x4).toInt ≤ 20) ∧ ((x5).toInt = 12 * ((x4).toInt - 1) + a1.toInt) ∧ (0 ≤ a1.toInt) ∧ (a1.toInt < (it 489 0).toInt) ∧ (B9 lg it) ∧ (¬ lg 489 19 = 0)) → w_X9_at_b135 a1 a2 a3 Pz  x4 x5 s0 lg it := by
    intro x4 x5 s0 lg157 it158 hI155 hK156 hv
    unfold w_X9_at_b135
    obtain ⟨hv135_0, hv135_1, hv135_2, hv135_3, hv135_4, hv135_5, hv135_6, hv135_7⟩ := hv
    have f0 := i9_f hI155 (j := 489) (k := 0) rfl
    have fx : (x4 - 1).toInt = x4.toInt - 1 := sb32 rfl ti_1 (by omega) (by omega)
    refine ⟨fun c137 => ?_, fun c137 => ?_⟩
    · try simp only [Int32.lt_iff_toInt_lt, Int32.le_iff_toInt_le, ← Int32.toInt_inj, Int32.toInt_toInt64, tiA, tlA] at c137
      try have f159 : ((x5 + 6) : Int32).toInt = (x5).toInt + 6 := ad32 (a := (x5).toInt) (b := 6) (rfl) (ti_6) (by omega) (by omega)
      have hi160 : vp_in (x5 + 6) 240 := vp_of (by first | omega | ((try simp only [Int32.lt_iff_toInt_lt, Int32.le_iff_toInt_le, ← Int32.toInt_inj, Int32.toInt_toInt64, tiA, tlA]); omega) | (split <;> omega)) (by first | omega | ((try simp only [Int32.lt_iff_toInt_lt, Int32.le_iff_toInt_le, ← Int32.toInt_inj, Int32.toInt_toInt64, tiA, tlA]); omega) | (split <;> omega))
      refine ⟨hi160, ?_⟩
      have hz161 := vlt hi160
      exact bl159 (x4) (x5) ((lg157 512 (x5 + 6).toNatClampNeg)) (s0) _ _ hI155 hK156 ⟨by first | omega | assumption | exact Or.inl rfl | exact Or.inr rfl, by first | omega | assumption | exact Or.inl rfl | exact Or.inr rfl, by first | omega | assumption | exact Or.inl rfl | exact Or.inr rfl, by first | omega | assumption | exact Or.inl rfl | exact Or.inr rfl, by first | omega | assumption | exact Or.inl rfl | exact Or.inr rfl, by first | omega | assumption | exact Or.inl rfl | exact Or.inr rfl, by first | omega | assumption | exact Or.inl rfl | exact Or.inr rfl, by first | omega | assumption | exact Or.inl rfl | exact Or.inr rfl, B9_2 (s := (x4 - 1).toNatClampNeg) (i := (a1).toNatClampNeg) hv135_6 (by have z1 := cl32 (i := x4 - 1) (by omega); omega) (by have z1 := cl32 (i := x4 - 1) (by omega); omega) (by have z1 := cl32 (i := a1) (by omega); omega) (by have z1 := cl32 (i := a1) (by omega); omega) (by have z1 := cl32 (i := x4 - 1) (by omega); have z2 := cl32 (i := a1) (by omega); have z3 := cl32 (i := (x5 + 6)) (by omega); omega)⟩
    · try simp only [Int32.lt_iff_toInt_lt, Int32.le_iff_toInt_le, ← Int32.toInt_inj, Int32.toInt_toInt64, tiA, tlA] at c137
      have hi162 : vp_in a1 6 := vp_of (by first | omega | ((try simp only [Int32.lt_iff_toInt_lt, Int32.le_iff_toInt_le, ← Int32.toInt_inj, Int32.toInt_toInt64, tiA, tlA]); omega) | (split <;> omega)) (by first | omega | ((try simp only [Int32.lt_iff_toInt_lt, Int32.le_iff_toInt_le, ← Int32.toInt_inj, Int32.toInt_toInt64, tiA, tlA]); omega) | (split <;> omega))
      refine ⟨hi162, ?_⟩
      have hz163 := vlt hi162
      exact bl159 (x4) (x5) ((lg157 494 a1.toNatClampNeg)) (s0) _ _ hI155 hK156 ⟨by first | omega | assumption | exact Or.inl rfl | exact Or.inr rfl, by first | omega | assumption | exact Or.inl rfl | exact Or.inr rfl, by first | omega | assumption | exact Or.inl rfl | exact Or.inr rfl, by first | omega | assumption | exact Or.inl rfl | exact Or.inr rfl, by first | omega | assumption | exact Or.inl rfl | exact Or.inr rfl, by first | omega | assumption | exact Or.inl rfl | exact Or.inr rfl, by first | omega | assumption | exact Or.inl rfl | exact Or.inr rfl, by first | omega | assumption | exact Or.inl rfl | exact Or.inr rfl, (hI155.2.2.1 (a1).toNatClampNeg (by have z1 := cl32 (i := a1) (by omega); omega) (by have z1 := cl32 (i := a1) (by omega); omega)).1.2⟩
  have bl107 : ∀ (x4 : Int32) (x5 : Int32) (s0 : Int64) (s1 : Int64) (s2 : Int64) (s3 : Int64) (lg : LGt) (it : ITt), I9 lg it → Kd (fun j => j = 501 ∨ j = 502 ∨ j = 503 ∨ j = 504 ∨ j = 505 ∨ j = 506 ∨ j = 507 ∨ j = 508 ∨ j = 509 ∨ j = 510 ∨ j = 511 ∨ j = 512) (fun k => k = 18 ∨ k = 19 ∨ k = 20 ∨ k = 28 ∨ k = 29 ∨ k = 30 ∨ k = 31 ∨ k = 32 ∨ k = 33 ∨ k = 34 ∨ k = 35 ∨ k = 36 ∨ k = 37 ∨ k = 38 ∨ k = 39 ∨ k = 40 ∨ k = 41 ∨ k = 42 ∨ k = 43) lg0 it0 lg it → ((0 ≤ (x4).toInt) ∧ ((x4).toInt ≤ (it 489 42).toInt) ∧ ((x4).toInt ≤ 20) ∧ ((x5).toInt = 12 * ((x4).toInt - 1) + a1.toInt) ∧ (0 ≤ a1.toInt) ∧ (a1.toInt < (it 489 0).toInt) ∧ (B9 lg it) ∧ (¬ s0 = 0) ∧ (¬ s2 = 0)) → w_X9_at_b107 a1 a2 a3 Pz  x4 x5 s0 s1 s2 s3 lg it := by
    intro x4 x5 s0 s1 s2 s3 lg166 it167 hI164 hK165 hv
    unfold w_X9_at_b107
    obtain ⟨hv107_0, hv107_1, hv107_2, hv107_3, hv107_4, hv107_5, hv107_6, hv107_7, hv107_8⟩ := hv
    have f0 := i9_f hI164 (j := 489) (k := 0) rfl
    have fx : (x4 - 1).toInt = x4.toInt - 1 := sb32 rfl ti_1 (by omega) (by omega)
    have hc171 : o01 it167 := i9_o hI164
    refine ⟨hc171, ?_⟩
    have hc172 : ¬ s2 = 0 := by assumption
    refine ⟨hc172, ?_⟩
    have hc173 : ¬ s0 = 0 := by assumption
    refine ⟨hc173, ?_⟩
    intro q168 em_q168 lg169 em_lg169 it170 em_it170
    have hI174 : I9 lg169 it170 := by rw [em_lg169, em_it170]; exact i9_g hI164 (by rw [em_q168]; exact gL_o (i9_o hI164))
    have hK175 : Kd (fun j => j = 501 ∨ j = 502 ∨ j = 503 ∨ j = 504 ∨ j = 505 ∨ j = 506 ∨ j = 507 ∨ j = 508 ∨ j = 509 ∨ j = 510 ∨ j = 511 ∨ j = 512) (fun k => k = 18 ∨ k = 19 ∨ k = 20 ∨ k = 28 ∨ k = 29 ∨ k = 30 ∨ k = 31 ∨ k = 32 ∨ k = 33 ∨ k = 34 ∨ k = 35 ∨ k = 36 ∨ k = 37 ∨ k = 38 ∨ k = 39 ∨ k = 40 ∨ k = 41 ∨ k = 42 ∨ k = 43) lg0 it0 lg169 it170 := by rw [em_lg169, em_it170]; exact kd_g (by first | decide | (dsimp only; decide) | omega | (dsimp only; omega)) (by first | decide | (dsimp only; decide) | omega | (dsimp only; omega)) (by first | decide | (dsimp only; decide) | omega | (dsimp only; omega)) hK165
    have z19_lg169 : ¬ lg169 489 19 = 0 := by rw [em_lg169, setU_19, em_q168]; exact gL_d hc172 hc173
    have e176 : (it170 489 0).toInt = (it167 489 0).toInt := by rw [em_it170]; exact congrArg Int32.toInt (setO_c (by decide))
    have e177 : (it170 489 42).toInt = (it167 489 42).toInt := by rw [em_it170]; exact congrArg Int32.toInt (setO_c (by decide))
    have PB178 : B9 lg169 it170 := B9_c hv107_6 (by rw [em_lg169]; exact setU_row (by decide)) (by rw [em_lg169]; exact setU_row (by decide)) (by rw [em_it170]; exact setO_c (by decide)) (by rw [em_it170]; exact setO_c (by decide))
    refine ⟨fun c113 => ?_, fun c113 => ?_⟩
    · try simp only [Int32.lt_iff_toInt_lt, Int32.le_iff_toInt_le, ← Int32.toInt_inj, Int32.toInt_toInt64, tiA, tlA] at c113
      try have f179 : ((x5 + 6) : Int32).toInt = (x5).toInt + 6 := ad32 (a := (x5).toInt) (b := 6) (rfl) (ti_6) (by omega) (by omega)
      have hi180 : vp_in (x5 + 6) 240 := vp_of (by first | omega | ((try simp only [Int32.lt_iff_toInt_lt, Int32.le_iff_toInt_le, ← Int32.toInt_inj, Int32.toInt_toInt64, tiA, tlA]); omega) | (split <;> omega)) (by first | omega | ((try simp only [Int32.lt_iff_toInt_lt, Int32.le_iff_toInt_le, ← Int32.toInt_inj, Int32.toInt_toInt64, tiA, tlA]); omega) | (split <;> omega))
      refine ⟨hi180, ?_⟩
      have hz181 := vlt hi180
      exact bl135 (x4) (x5) ((lg169 511 (x5 + 6).toNatClampNeg)) _ _ hI174 hK175 (by refine ⟨?_, ?_, ?_, ?_, ?_, ?_, ?_, ?_⟩ <;> first | omega | assumption | exact Or.inl rfl | exact Or.inr rfl | decide)
    · try simp only [Int32.lt_iff_toInt_lt, Int32.le_iff_toInt_le, ← Int32.toInt_inj, Int32.toInt_toInt64, tiA, tlA] at c113
      have hi182 : vp_in a1 6 := vp_of (by first | omega | ((try simp only [Int32.lt_iff_toInt_lt, Int32.le_iff_toInt_le, ← Int32.toInt_inj, Int32.toInt_toInt64, tiA, tlA]); omega) | (split <;> omega)) (by first | omega | ((try simp only [Int32.lt_iff_toInt_lt, Int32.le_iff_toInt_le, ← Int32.toInt_inj, Int32.toInt_toInt64, tiA, tlA]); omega) | (split <;> omega))
      refine ⟨hi182, ?_⟩
      have hz183 := vlt hi182
      exact bl135 (x4) (x5) ((lg169 493 a1.toNatClampNeg)) _ _ hI174 hK175 (by refine ⟨?_, ?_, ?_, ?_, ?_, ?_, ?_, ?_⟩ <;> first | omega | assumption | exact Or.inl rfl | exact Or.inr rfl | decide)
  have bl89 : ∀ (x4 : Int32) (x5 : Int32) (s0 : Int64) (s1 : Int64) (s2 : Int64) (lg : LGt) (it : ITt), I9 lg it → Kd (fun j => j = 501 ∨ j = 502 ∨ j = 503 ∨ j = 504 ∨ j = 505 ∨ j = 506 ∨ j = 507 ∨ j = 508 ∨ j = 509 ∨ j = 510 ∨ j = 511 ∨ j = 512) (fun k => k = 18 ∨ k = 19 ∨ k = 20 ∨ k = 28 ∨ k = 29 ∨ k = 30 ∨ k = 31 ∨ k = 32 ∨ k = 33 ∨ k = 34 ∨ k = 35 ∨ k = 36 ∨ k = 37 ∨ k = 38 ∨ k = 39 ∨ k = 40 ∨ k = 41 ∨ k = 42 ∨ k = 43) lg0 it0 lg it → ((0 ≤ (x4).toInt) ∧ ((x4).toInt ≤ (it 489 42).toInt) ∧ ((x4).toInt ≤ 20) ∧ ((x5).toInt = 12 * ((x4).toInt - 1) + a1.toInt) ∧ (0 ≤ a1.toInt) ∧ (a1.toInt < (it 489 0).toInt) ∧ (B9 lg it) ∧ (¬ s1 = 0)) → w_X9_at_b89 a1 a2 a3 Pz  x4 x5 s0 s1 s2 lg it := by
    intro x4 x5 s0 s1 s2 lg186 it187 hI184 hK185 hv
    unfold w_X9_at_b89
    obtain ⟨hv89_0, hv89_1, hv89_2, hv89_3, hv89_4, hv89_5, hv89_6, hv89_7⟩ := hv
    have f0 := i9_f hI184 (j := 489) (k := 0) rfl
    have fx : (x4 - 1).toInt = x4.toInt - 1 := sb32 rfl ti_1 (by omega) (by omega)
    refine ⟨fun c91 => ?_, fun c91 => ?_⟩
    · try simp only [Int32.lt_iff_toInt_lt, Int32.le_iff_toInt_le, ← Int32.toInt_inj, Int32.toInt_toInt64, tiA, tlA] at c91
      try have f188 : ((x4 - 1) : Int32).toInt = (x4).toInt - 1 := sb32 (a := (x4).toInt) (b := 1) (rfl) (ti_1) (by omega) (by omega)
      have hi189 : vp_in (x4 - 1) 20 := vp_of (by first | omega | ((try simp only [Int32.lt_iff_toInt_lt, Int32.le_iff_toInt_le, ← Int32.toInt_inj, Int32.toInt_toInt64, tiA, tlA]); omega) | (split <;> omega)) (by first | omega | ((try simp only [Int32.lt_iff_toInt_lt, Int32.le_iff_toInt_le, ← Int32.toInt_inj, Int32.toInt_toInt64, tiA, tlA]); omega) | (split <;> omega))
      refine ⟨hi189, ?_⟩
      have hz190 := vlt hi189
      exact bl107 (x4) (x5) ((lg186 510 (x4 - 1).toNatClampNeg)) (s0) (s1) (s2) _ _ hI184 hK185 ⟨by first | omega | assumption | exact Or.inl rfl | exact Or.inr rfl, by first | omega | assumption | exact Or.inl rfl | exact Or.inr rfl, by first | omega | assumption | exact Or.inl rfl | exact Or.inr rfl, by first | omega | assumption | exact Or.inl rfl | exact Or.inr rfl, by first | omega | assumption | exact Or.inl rfl | exact Or.inr rfl, by first | omega | assumption | exact Or.inl rfl | exact Or.inr rfl, by first | omega | assumption | exact Or.inl rfl | exact Or.inr rfl, B9_1 hv89_6 (by have z1 := cl32 (i := (x4 - 1)) (by omega); omega) (by have z1 := cl32 (i := (x4 - 1)) (by omega); omega), by assumption⟩
    · try simp only [Int32.lt_iff_toInt_lt, Int32.le_iff_toInt_le, ← Int32.toInt_inj, Int32.toInt_toInt64, tiA, tlA] at c91
      exact bl107 (x4) (x5) ((1 : Int64)) (s0) (s1) (s2) _ _ hI184 hK185 ⟨by first | omega | assumption | exact Or.inl rfl | exact Or.inr rfl, by first | omega | assumption | exact Or.inl rfl | exact Or.inr rfl, by first | omega | assumption | exact Or.inl rfl | exact Or.inr rfl, by first | omega | assumption | exact Or.inl rfl | exact Or.inr rfl, by first | omega | assumption | exact Or.inl rfl | exact Or.inr rfl, by first | omega | assumption | exact Or.inl rfl | exact Or.inr rfl, by first | omega | assumption | exact Or.inl rfl | exact Or.inr rfl, by decide, by assumption⟩
  unfold w_X9_at
  have t0 := ti_0
  have t9 := ti_9
  have tm1 := ti_m1
  have f0 := i9_f hI (j := 489) (k := 0) rfl
  have fB : (it0 489 0 - 1).toInt = (it0 489 0).toInt - 1 := sb32 rfl ti_1 (by omega) (by omega)
  have f191 : 0 ≤ (it0 489 0).toInt ∧ (it0 489 0).toInt ≤ 6 := i9_f hI (j := 489) (k := 0) rfl
  refine ⟨fun c5 => ?_, fun c5 => ?_⟩
  · try simp only [Int32.lt_iff_toInt_lt, Int32.le_iff_toInt_le, ← Int32.toInt_inj, Int32.toInt_toInt64, tiA, tlA] at c5
    subst hp
    exact ⟨hI, hKr⟩
  · try simp only [Int32.lt_iff_toInt_lt, Int32.le_iff_toInt_le, ← Int32.toInt_inj, Int32.toInt_toInt64, tiA, tlA] at c5
    refine ⟨fun c17 => ?_, fun c17 => ?_⟩
    · try simp only [Int32.lt_iff_toInt_lt, Int32.le_iff_toInt_le, ← Int32.toInt_inj, Int32.toInt_toInt64, tiA, tlA] at c17
      subst hp
      exact ⟨hI, hKr⟩
    · try simp only [Int32.lt_iff_toInt_lt, Int32.le_iff_toInt_le, ← Int32.toInt_inj, Int32.toInt_toInt64, tiA, tlA] at c17
      refine ⟨fun c24 => ?_, fun c24 => ?_⟩
      · try simp only [Int32.lt_iff_toInt_lt, Int32.le_iff_toInt_le, ← Int32.toInt_inj, Int32.toInt_toInt64, tiA, tlA] at c24
        refine ⟨_, s_X9_findAll   hI , ?_⟩
        intro lg192 it193 hq
        obtain ⟨⟨hI194, hK195⟩, ha198⟩ := hq
        have hK196 : Kd (fun j => j = 501 ∨ j = 502 ∨ j = 503 ∨ j = 504 ∨ j = 505 ∨ j = 506 ∨ j = 507 ∨ j = 508 ∨ j = 509 ∨ j = 510 ∨ j = 511 ∨ j = 512) (fun k => k = 18 ∨ k = 19 ∨ k = 20 ∨ k = 28 ∨ k = 29 ∨ k = 30 ∨ k = 31 ∨ k = 32 ∨ k = 33 ∨ k = 34 ∨ k = 35 ∨ k = 36 ∨ k = 37 ∨ k = 38 ∨ k = 39 ∨ k = 40 ∨ k = 41 ∨ k = 42 ∨ k = 43) lg0 it0 lg192 it193 := kd_t hKr hK195 (fun j hj => by first | omega | exact False.elim hj | (dsimp only at hj ⊢; omega)) (fun j hj => by first | omega | exact False.elim hj | (dsimp only at hj ⊢; omega))
        try have e199 : (it193 489 0).toInt = (it0 489 0).toInt := congrArg Int32.toInt (hK195.2 0 (by first | decide | (dsimp only; decide) | omega | (dsimp only; omega))).2
        try have e200 : (it193 489 42).toInt = (it0 489 42).toInt := congrArg Int32.toInt (hK195.2 42 (by first | decide | (dsimp only; decide) | omega | (dsimp only; omega))).2
        have PB201 := ha198.1
        have PT202 := ha198.2
        refine ⟨_, s_X9_upTo  (a2) hI194 (PB201), ?_⟩
        intro v208 lg203 it204 hq
        obtain ⟨⟨hI205, hK206⟩, ha209⟩ := hq
        have hK207 : Kd (fun j => j = 501 ∨ j = 502 ∨ j = 503 ∨ j = 504 ∨ j = 505 ∨ j = 506 ∨ j = 507 ∨ j = 508 ∨ j = 509 ∨ j = 510 ∨ j = 511 ∨ j = 512) (fun k => k = 18 ∨ k = 19 ∨ k = 20 ∨ k = 28 ∨ k = 29 ∨ k = 30 ∨ k = 31 ∨ k = 32 ∨ k = 33 ∨ k = 34 ∨ k = 35 ∨ k = 36 ∨ k = 37 ∨ k = 38 ∨ k = 39 ∨ k = 40 ∨ k = 41 ∨ k = 42 ∨ k = 43) lg0 it0 lg203 it204 := kd_t hK196 hK206 (fun j hj => by first | omega | exact False.elim hj | (dsimp only at hj ⊢; omega)) (fun j hj => by first | omega | exact False.elim hj | (dsimp only at hj ⊢; omega))
        try have e210 : (it204 489 0).toInt = (it193 489 0).toInt := congrArg Int32.toInt (hK206.2 0 (by first | decide | (dsimp only; decide) | omega | (dsimp only; omega))).2
        try have e211 : (it204 489 42).toInt = (it193 489 42).toInt := congrArg Int32.toInt (hK206.2 42 (by first | decide | (dsimp only; decide) | omega | (dsimp only; omega))).2
        have PB212 : B9 lg203 it204 := B9_c PB201 (hK206.1 510 (by decide) (by first | decide | (dsimp only; decide) | omega | (dsimp only; omega))).1 (hK206.1 512 (by decide) (by first | decide | (dsimp only; decide) | omega | (dsimp only; omega))).1 (hK206.2 0 (by first | decide | (dsimp only; decide) | omega | (dsimp only; omega))).2 (hK206.2 42 (by first | decide | (dsimp only; decide) | omega | (dsimp only; omega))).2
        have PT213 : T9 lg203 it204 := T9_c PT202 (hK206.1 503 (by decide) (by first | decide | (dsimp only; decide) | omega | (dsimp only; omega))).1 (hK206.1 505 (by decide) (by first | decide | (dsimp only; decide) | omega | (dsimp only; omega))).1 (hK206.1 501 (by decide) (by first | decide | (dsimp only; decide) | omega | (dsimp only; omega))).2 (hK206.2 0 (by first | decide | (dsimp only; decide) | omega | (dsimp only; omega))).2
        have f214 := i9_f hI194 (j := 489) (k := 42) rfl
        intro it215 em216
        have hI217 : I9 lg203 it215 := by rw [em216]; exact i9_u hI205 (ok9_b (a := 0) (b := 1) rfl (by first | decide | ((try simp only [Int32.lt_iff_toInt_lt, Int32.le_iff_toInt_le, ← Int32.toInt_inj, Int32.toInt_toInt64, tiA, tlA]); omega) | (split <;> (try simp only [Int32.lt_iff_toInt_lt, Int32.le_iff_toInt_le, ← Int32.toInt_inj, Int32.toInt_toInt64, tiA, tlA]) <;> omega))) (by decide) (fun _ => by decide)
        have hK218 : Kd (fun j => j = 501 ∨ j = 502 ∨ j = 503 ∨ j = 504 ∨ j = 505 ∨ j = 506 ∨ j = 507 ∨ j = 508 ∨ j = 509 ∨ j = 510 ∨ j = 511 ∨ j = 512) (fun k => k = 18 ∨ k = 19 ∨ k = 20 ∨ k = 28 ∨ k = 29 ∨ k = 30 ∨ k = 31 ∨ k = 32 ∨ k = 33 ∨ k = 34 ∨ k = 35 ∨ k = 36 ∨ k = 37 ∨ k = 38 ∨ k = 39 ∨ k = 40 ∨ k = 41 ∨ k = 42 ∨ k = 43) lg0 it0 lg203 it215 := by rw [em216]; exact kd_uf (by first | decide | (dsimp only; decide) | omega | (dsimp only; omega)) hK207
        have e219 : (it215 489 0).toInt = (it204 489 0).toInt := by rw [em216]; exact congrArg Int32.toInt (u2_ne (by decide))
        have e220 : (it215 489 42).toInt = (it204 489 42).toInt := by rw [em216]; exact congrArg Int32.toInt (u2_ne (by decide))
        have PB221 : B9 lg203 it215 := B9_c PB212 rfl rfl (by rw [em216]; exact u2_ne (by decide)) (by rw [em216]; exact u2_ne (by decide))
        have PT222 : T9 lg203 it215 := T9_c PT213 rfl rfl (by rw [em216]; exact u2_row (by decide)) (by rw [em216]; exact u2_ne (by decide))
        refine ⟨fun c49 => ?_, fun c49 => ?_⟩
        · try simp only [Int32.lt_iff_toInt_lt, Int32.le_iff_toInt_le, ← Int32.toInt_inj, Int32.toInt_toInt64, tiA, tlA] at c49
          try have f223 : ((v208 - 1) : Int32).toInt = (v208).toInt - 1 := sb32 (a := (v208).toInt) (b := 1) (rfl) (ti_1) (by omega) (by omega)
          try have f224 : ((12 * (v208 - 1)) : Int32).toInt = 12 * ((v208 - 1)).toInt := ml32 (a := 12) (b := ((v208 - 1)).toInt) (ti_12) (rfl) (by omega) (by omega)
          try have f225 : (((12 * (v208 - 1)) + a1) : Int32).toInt = ((12 * (v208 - 1))).toInt + (a1).toInt := ad32 (a := ((12 * (v208 - 1))).toInt) (b := (a1).toInt) (rfl) (rfl) (by omega) (by omega)
          refine ⟨fun c73 => ?_, fun c73 => ?_⟩
          · try simp only [Int32.lt_iff_toInt_lt, Int32.le_iff_toInt_le, ← Int32.toInt_inj, Int32.toInt_toInt64, tiA, tlA] at c73
            try have f226 : ((v208 - 1) : Int32).toInt = (v208).toInt - 1 := sb32 (a := (v208).toInt) (b := 1) (rfl) (ti_1) (by omega) (by omega)
            have hi227 : vp_in (v208 - 1) 20 := vp_of (by first | omega | ((try simp only [Int32.lt_iff_toInt_lt, Int32.le_iff_toInt_le, ← Int32.toInt_inj, Int32.toInt_toInt64, tiA, tlA]); omega) | (split <;> omega)) (by first | omega | ((try simp only [Int32.lt_iff_toInt_lt, Int32.le_iff_toInt_le, ← Int32.toInt_inj, Int32.toInt_toInt64, tiA, tlA]); omega) | (split <;> omega))
            refine ⟨hi227, ?_⟩
            have hz228 := vlt hi227
            exact bl89 (v208) (((12 * (v208 - 1)) + a1)) ((lg203 509 (v208 - 1).toNatClampNeg)) ((1 : Int64)) (a2.toInt64) _ _ hI217 hK218 ⟨by first | omega | assumption | exact Or.inl rfl | exact Or.inr rfl, by first | omega | assumption | exact Or.inl rfl | exact Or.inr rfl, by first | omega | assumption | exact Or.inl rfl | exact Or.inr rfl, by first | omega | assumption | exact Or.inl rfl | exact Or.inr rfl, by first | omega | assumption | exact Or.inl rfl | exact Or.inr rfl, by first | omega | assumption | exact Or.inl rfl | exact Or.inr rfl, by first | omega | assumption | exact Or.inl rfl | exact Or.inr rfl, by decide⟩
          · try simp only [Int32.lt_iff_toInt_lt, Int32.le_iff_toInt_le, ← Int32.toInt_inj, Int32.toInt_toInt64, tiA, tlA] at c73
            exact bl89 (v208) (((12 * (v208 - 1)) + a1)) ((0 : Int64)) ((1 : Int64)) (a2.toInt64) _ _ hI217 hK218 ⟨by first | omega | assumption | exact Or.inl rfl | exact Or.inr rfl, by first | omega | assumption | exact Or.inl rfl | exact Or.inr rfl, by first | omega | assumption | exact Or.inl rfl | exact Or.inr rfl, by first | omega | assumption | exact Or.inl rfl | exact Or.inr rfl, by first | omega | assumption | exact Or.inl rfl | exact Or.inr rfl, by first | omega | assumption | exact Or.inl rfl | exact Or.inr rfl, by first | omega | assumption | exact Or.inl rfl | exact Or.inr rfl, by decide⟩
        · try simp only [Int32.lt_iff_toInt_lt, Int32.le_iff_toInt_le, ← Int32.toInt_inj, Int32.toInt_toInt64, tiA, tlA] at c49
          subst hp
          exact ⟨hI217, hK218⟩
      · try simp only [Int32.lt_iff_toInt_lt, Int32.le_iff_toInt_le, ← Int32.toInt_inj, Int32.toInt_toInt64, tiA, tlA] at c24
        subst hp
        exact ⟨hI, hKr⟩
set_option maxRecDepth 100000 in
theorem s_X9_judge (a1 : Int32) (a2 : Int32) {lg0 : LGt} {it0 : ITt} (hI : I9 lg0 it0) : w_X9_judge a1 a2 (fun (v : Int32) (lg' : LGt) (it' : ITt) => (I9 lg' it' ∧ Kd (fun j => j = 501 ∨ j = 502 ∨ j = 503 ∨ j = 504 ∨ j = 505 ∨ j = 506 ∨ j = 507 ∨ j = 508 ∨ j = 509 ∨ j = 510 ∨ j = 511 ∨ j = 512) (fun k => k = 18 ∨ k = 19 ∨ k = 20 ∨ k = 28 ∨ k = 29 ∨ k = 30 ∨ k = 31 ∨ k = 32 ∨ k = 33 ∨ k = 34 ∨ k = 35 ∨ k = 36 ∨ k = 37 ∨ k = 38 ∨ k = 39 ∨ k = 40 ∨ k = 41 ∨ k = 42 ∨ k = 43) lg0 it0 lg' it'))  lg0 it0 := by
  have hb_a1 := And.intro a1.le_toInt a1.toInt_lt
  have hb_a2 := And.intro a2.le_toInt a2.toInt_lt
  have hKr : Kd (fun j => j = 501 ∨ j = 502 ∨ j = 503 ∨ j = 504 ∨ j = 505 ∨ j = 506 ∨ j = 507 ∨ j = 508 ∨ j = 509 ∨ j = 510 ∨ j = 511 ∨ j = 512) (fun k => k = 18 ∨ k = 19 ∨ k = 20 ∨ k = 28 ∨ k = 29 ∨ k = 30 ∨ k = 31 ∨ k = 32 ∨ k = 33 ∨ k = 34 ∨ k = 35 ∨ k = 36 ∨ k = 37 ∨ k = 38 ∨ k = 39 ∨ k = 40 ∨ k = 41 ∨ k = 42 ∨ k = 43) lg0 it0 lg0 it0 := kd_r
  generalize hp : (fun (v : Int32) (lg' : LGt) (it' : ITt) => (I9 lg' it' ∧ Kd (fun j => j = 501 ∨ j = 502 ∨ j = 503 ∨ j = 504 ∨ j = 505 ∨ j = 506 ∨ j = 507 ∨ j = 508 ∨ j = 509 ∨ j = 510 ∨ j = 511 ∨ j = 512) (fun k => k = 18 ∨ k = 19 ∨ k = 20 ∨ k = 28 ∨ k = 29 ∨ k = 30 ∨ k = 31 ∨ k = 32 ∨ k = 33 ∨ k = 34 ∨ k = 35 ∨ k = 36 ∨ k = 37 ∨ k = 38 ∨ k = 39 ∨ k = 40 ∨ k = 41 ∨ k = 42 ∨ k = 43) lg0 it0 lg' it')) = Pz
  unfold w_X9_judge
  have t0 := ti_0
  have t9 := ti_9
  have tm1 := ti_m1
  refine ⟨fun c4 => ?_, fun c4 => ?_⟩
  · try simp only [Int32.lt_iff_toInt_lt, Int32.le_iff_toInt_le, ← Int32.toInt_inj, Int32.toInt_toInt64, tiA, tlA] at c4
    have hi28 : vp_in a1 6 := vp_of (by first | omega | ((try simp only [Int32.lt_iff_toInt_lt, Int32.le_iff_toInt_le, ← Int32.toInt_inj, Int32.toInt_toInt64, tiA, tlA]); omega) | (split <;> omega)) (by first | omega | ((try simp only [Int32.lt_iff_toInt_lt, Int32.le_iff_toInt_le, ← Int32.toInt_inj, Int32.toInt_toInt64, tiA, tlA]); omega) | (split <;> omega))
    refine ⟨hi28, ?_⟩
    have hz29 := vlt hi28
    refine ⟨fun c15 => ?_, fun c15 => ?_⟩
    · try simp only [Int32.lt_iff_toInt_lt, Int32.le_iff_toInt_le, ← Int32.toInt_inj, Int32.toInt_toInt64, tiA, tlA] at c15
      refine ⟨_, s_X9_findAll   hI , ?_⟩
      intro lg30 it31 hq
      obtain ⟨⟨hI32, hK33⟩, ha36⟩ := hq
      have hK34 : Kd (fun j => j = 501 ∨ j = 502 ∨ j = 503 ∨ j = 504 ∨ j = 505 ∨ j = 506 ∨ j = 507 ∨ j = 508 ∨ j = 509 ∨ j = 510 ∨ j = 511 ∨ j = 512) (fun k => k = 18 ∨ k = 19 ∨ k = 20 ∨ k = 28 ∨ k = 29 ∨ k = 30 ∨ k = 31 ∨ k = 32 ∨ k = 33 ∨ k = 34 ∨ k = 35 ∨ k = 36 ∨ k = 37 ∨ k = 38 ∨ k = 39 ∨ k = 40 ∨ k = 41 ∨ k = 42 ∨ k = 43) lg0 it0 lg30 it31 := kd_t hKr hK33 (fun j hj => by first | omega | exact False.elim hj | (dsimp only at hj ⊢; omega)) (fun j hj => by first | omega | exact False.elim hj | (dsimp only at hj ⊢; omega))
      have PB37 := ha36.1
      have PT38 := ha36.2
      have lp27 : ∀ (n : Nat) (x3 : Int32) (lg : LGt) (it : ITt), I9 lg it → Kd (fun j => j = 501 ∨ j = 502 ∨ j = 503 ∨ j = 504 ∨ j = 505 ∨ j = 506 ∨ j = 507 ∨ j = 508 ∨ j = 509 ∨ j = 510 ∨ j = 511 ∨ j = 512) (fun k => k = 18 ∨ k = 19 ∨ k = 20 ∨ k = 28 ∨ k = 29 ∨ k = 30 ∨ k = 31 ∨ k = 32 ∨ k = 33 ∨ k = 34 ∨ k = 35 ∨ k = 36 ∨ k = 37 ∨ k = 38 ∨ k = 39 ∨ k = 40 ∨ k = 41 ∨ k = 42 ∨ k = 43) lg0 it0 lg it → ((0 ≤ (x3).toInt)) → (21 - (x3).toInt).toNat < n → w_X9_judge_b27 a1 a2 Pz  n x3 lg it := by
        intro n27
        induction n27 with
        | zero => intro x3 lg it _ _ _ hn; exact absurd hn (Nat.not_lt_zero _)
        | succ n27 ih27 =>
          intro x3 lg41 it42 hI39 hK40 hv hn
          unfold w_X9_judge_b27
          have hv27_0 := hv
          have f43 : 0 ≤ (it42 489 42).toInt ∧ (it42 489 42).toInt ≤ 20 := i9_f hI39 (j := 489) (k := 42) rfl
          refine ⟨fun c32 => ?_, fun c32 => ?_⟩
          · try simp only [Int32.lt_iff_toInt_lt, Int32.le_iff_toInt_le, ← Int32.toInt_inj, Int32.toInt_toInt64, tiA, tlA] at c32
            subst hp
            exact ⟨hI39, hK40⟩
          · try simp only [Int32.lt_iff_toInt_lt, Int32.le_iff_toInt_le, ← Int32.toInt_inj, Int32.toInt_toInt64, tiA, tlA] at c32
            refine ⟨fun c36 => ?_, fun c36 => ?_⟩
            · try simp only [Int32.lt_iff_toInt_lt, Int32.le_iff_toInt_le, ← Int32.toInt_inj, Int32.toInt_toInt64, tiA, tlA] at c36
              try have f44 : ((100 + x3) : Int32).toInt = 100 + (x3).toInt := ad32 (a := 100) (b := (x3).toInt) (ti_100) (rfl) (by omega) (by omega)
              subst hp
              exact ⟨hI39, hK40⟩
            · try simp only [Int32.lt_iff_toInt_lt, Int32.le_iff_toInt_le, ← Int32.toInt_inj, Int32.toInt_toInt64, tiA, tlA] at c36
              have hi45 : vp_in a1 6 := vp_of (by first | omega | ((try simp only [Int32.lt_iff_toInt_lt, Int32.le_iff_toInt_le, ← Int32.toInt_inj, Int32.toInt_toInt64, tiA, tlA]); omega) | (split <;> omega)) (by first | omega | ((try simp only [Int32.lt_iff_toInt_lt, Int32.le_iff_toInt_le, ← Int32.toInt_inj, Int32.toInt_toInt64, tiA, tlA]); omega) | (split <;> omega))
              refine ⟨hi45, ?_⟩
              have hz46 := vlt hi45
              have f47 : 0 ≤ (it42 519 a1.toNatClampNeg).toInt ∧ (it42 519 a1.toNatClampNeg).toInt ≤ 60 := i9_f hI39 (j := 519) (k := a1.toNatClampNeg) rfl
              refine ⟨fun c52 => ?_, fun c52 => ?_⟩
              · try simp only [Int32.lt_iff_toInt_lt, Int32.le_iff_toInt_le, ← Int32.toInt_inj, Int32.toInt_toInt64, tiA, tlA] at c52
                rw [Int64.lt_iff_toInt_lt, ad64, Int32.toInt_toInt64] at c52
                try have f48 : ((60 * a1) : Int32).toInt = 60 * (a1).toInt := ml32 (a := 60) (b := (a1).toInt) (ti_60) (rfl) (by omega) (by omega)
                try have f49 : (((60 * a1) + a2) : Int32).toInt = ((60 * a1)).toInt + (a2).toInt := ad32 (a := ((60 * a1)).toInt) (b := (a2).toInt) (rfl) (rfl) (by omega) (by omega)
                try have f50 : ((((60 * a1) + a2) + x3) : Int32).toInt = (((60 * a1) + a2)).toInt + (x3).toInt := ad32 (a := (((60 * a1) + a2)).toInt) (b := (x3).toInt) (rfl) (rfl) (by omega) (by omega)
                have hi51 : vp_in (((60 * a1) + a2) + x3) 360 := vp_of (by first | omega | ((try simp only [Int32.lt_iff_toInt_lt, Int32.le_iff_toInt_le, ← Int32.toInt_inj, Int32.toInt_toInt64, tiA, tlA]); omega) | (split <;> omega)) (by first | omega | ((try simp only [Int32.lt_iff_toInt_lt, Int32.le_iff_toInt_le, ← Int32.toInt_inj, Int32.toInt_toInt64, tiA, tlA]); omega) | (split <;> omega))
                refine ⟨hi51, ?_⟩
                have hz52 := vlt hi51
                have hi53 : vp_in x3 20 := vp_of (by first | omega | ((try simp only [Int32.lt_iff_toInt_lt, Int32.le_iff_toInt_le, ← Int32.toInt_inj, Int32.toInt_toInt64, tiA, tlA]); omega) | (split <;> omega)) (by first | omega | ((try simp only [Int32.lt_iff_toInt_lt, Int32.le_iff_toInt_le, ← Int32.toInt_inj, Int32.toInt_toInt64, tiA, tlA]); omega) | (split <;> omega))
                refine ⟨hi53, ?_⟩
                have hz54 := vlt hi53
                refine ⟨fun c81 => ?_, fun c81 => ?_⟩
                · try simp only [Int32.lt_iff_toInt_lt, Int32.le_iff_toInt_le, ← Int32.toInt_inj, Int32.toInt_toInt64, tiA, tlA] at c81
                  try have f55 : ((x3 + 1) : Int32).toInt = (x3).toInt + 1 := ad32 (a := (x3).toInt) (b := 1) (rfl) (ti_1) (by omega) (by omega)
                  exact ih27 ((x3 + 1)) _ _ hI39 hK40 (by first | exact Nx_0 | omega | assumption) (by omega)
                · try simp only [Int32.lt_iff_toInt_lt, Int32.le_iff_toInt_le, ← Int32.toInt_inj, Int32.toInt_toInt64, tiA, tlA] at c81
                  subst hp
                  exact ⟨hI39, hK40⟩
              · try simp only [Int32.lt_iff_toInt_lt, Int32.le_iff_toInt_le, ← Int32.toInt_inj, Int32.toInt_toInt64, tiA, tlA] at c52
                try have f56 : ((100 + x3) : Int32).toInt = 100 + (x3).toInt := ad32 (a := 100) (b := (x3).toInt) (ti_100) (rfl) (by omega) (by omega)
                subst hp
                exact ⟨hI39, hK40⟩
      have t57 := ti_0
      exact ⟨_, lp27 ((21 - ((0 : Int32)).toInt).toNat + 1) ((0 : Int32)) _ _ hI32 hK34 (by first | exact Nx_0 | omega | assumption) (Nat.lt_succ_self _)⟩
    · try simp only [Int32.lt_iff_toInt_lt, Int32.le_iff_toInt_le, ← Int32.toInt_inj, Int32.toInt_toInt64, tiA, tlA] at c15
      subst hp
      exact ⟨hI, hKr⟩
  · try simp only [Int32.lt_iff_toInt_lt, Int32.le_iff_toInt_le, ← Int32.toInt_inj, Int32.toInt_toInt64, tiA, tlA] at c4
    subst hp
    exact ⟨hI, hKr⟩
set_option maxRecDepth 100000 in
theorem s_X9_shift (a1 : Int32) (a2 : Int32) (a3 : Int32) (a4 : Int32) (a5 : Int32) {lg0 : LGt} {it0 : ITt} (hI : I9 lg0 it0) : w_X9_shift a1 a2 a3 a4 a5 (fun (v : Int32) (lg' : LGt) (it' : ITt) => (I9 lg' it' ∧ Kd (fun j => j = 520 ∨ j = 521) (fun k => False) lg0 it0 lg' it'))  lg0 it0 := by
  have hb_a1 := And.intro a1.le_toInt a1.toInt_lt
  have hb_a2 := And.intro a2.le_toInt a2.toInt_lt
  have hb_a3 := And.intro a3.le_toInt a3.toInt_lt
  have hb_a4 := And.intro a4.le_toInt a4.toInt_lt
  have hb_a5 := And.intro a5.le_toInt a5.toInt_lt
  have hKr : Kd (fun j => j = 520 ∨ j = 521) (fun k => False) lg0 it0 lg0 it0 := kd_r
  generalize hp : (fun (v : Int32) (lg' : LGt) (it' : ITt) => (I9 lg' it' ∧ Kd (fun j => j = 520 ∨ j = 521) (fun k => False) lg0 it0 lg' it')) = Pz
  unfold w_X9_shift
  have t0 := ti_0
  have t9 := ti_9
  have tm1 := ti_m1
  refine ⟨fun c4 => ?_, fun c4 => ?_⟩
  · try simp only [Int32.lt_iff_toInt_lt, Int32.le_iff_toInt_le, ← Int32.toInt_inj, Int32.toInt_toInt64, tiA, tlA] at c4
    subst hp
    exact ⟨hI, hKr⟩
  · try simp only [Int32.lt_iff_toInt_lt, Int32.le_iff_toInt_le, ← Int32.toInt_inj, Int32.toInt_toInt64, tiA, tlA] at c4
    refine ⟨fun c11 => ?_, fun c11 => ?_⟩
    · try simp only [Int32.lt_iff_toInt_lt, Int32.le_iff_toInt_le, ← Int32.toInt_inj, Int32.toInt_toInt64, tiA, tlA] at c11
      have hi47 : vp_in a1 6 := vp_of (by first | omega | ((try simp only [Int32.lt_iff_toInt_lt, Int32.le_iff_toInt_le, ← Int32.toInt_inj, Int32.toInt_toInt64, tiA, tlA]); omega) | (split <;> omega)) (by first | omega | ((try simp only [Int32.lt_iff_toInt_lt, Int32.le_iff_toInt_le, ← Int32.toInt_inj, Int32.toInt_toInt64, tiA, tlA]); omega) | (split <;> omega))
      refine ⟨hi47, ?_⟩
      have hz48 := vlt hi47
      refine ⟨fun c22 => ?_, fun c22 => ?_⟩
      · try simp only [Int32.lt_iff_toInt_lt, Int32.le_iff_toInt_le, ← Int32.toInt_inj, Int32.toInt_toInt64, tiA, tlA] at c22
        subst hp
        exact ⟨hI, hKr⟩
      · try simp only [Int32.lt_iff_toInt_lt, Int32.le_iff_toInt_le, ← Int32.toInt_inj, Int32.toInt_toInt64, tiA, tlA] at c22
        have hi49 : vp_in a3 6 := vp_of (by first | omega | ((try simp only [Int32.lt_iff_toInt_lt, Int32.le_iff_toInt_le, ← Int32.toInt_inj, Int32.toInt_toInt64, tiA, tlA]); omega) | (split <;> omega)) (by first | omega | ((try simp only [Int32.lt_iff_toInt_lt, Int32.le_iff_toInt_le, ← Int32.toInt_inj, Int32.toInt_toInt64, tiA, tlA]); omega) | (split <;> omega))
        refine ⟨hi49, ?_⟩
        have hz50 := vlt hi49
        refine ⟨fun c31 => ?_, fun c31 => ?_⟩
        · try simp only [Int32.lt_iff_toInt_lt, Int32.le_iff_toInt_le, ← Int32.toInt_inj, Int32.toInt_toInt64, tiA, tlA] at c31
          have hi51 : vp_in a1 6 := vp_of (by first | omega | ((try simp only [Int32.lt_iff_toInt_lt, Int32.le_iff_toInt_le, ← Int32.toInt_inj, Int32.toInt_toInt64, tiA, tlA]); omega) | (split <;> omega)) (by first | omega | ((try simp only [Int32.lt_iff_toInt_lt, Int32.le_iff_toInt_le, ← Int32.toInt_inj, Int32.toInt_toInt64, tiA, tlA]); omega) | (split <;> omega))
          refine ⟨hi51, ?_⟩
          have hz52 := vlt hi51
          have hi53 : vp_in a3 6 := vp_of (by first | omega | ((try simp only [Int32.lt_iff_toInt_lt, Int32.le_iff_toInt_le, ← Int32.toInt_inj, Int32.toInt_toInt64, tiA, tlA]); omega) | (split <;> omega)) (by first | omega | ((try simp only [Int32.lt_iff_toInt_lt, Int32.le_iff_toInt_le, ← Int32.toInt_inj, Int32.toInt_toInt64, tiA, tlA]); omega) | (split <;> omega))
          refine ⟨hi53, ?_⟩
          have hz54 := vlt hi53
          refine ⟨fun c49 => ?_, fun c49 => ?_⟩
          · try simp only [Int32.lt_iff_toInt_lt, Int32.le_iff_toInt_le, ← Int32.toInt_inj, Int32.toInt_toInt64, tiA, tlA] at c49
            refine ⟨fun c57 => ?_, fun c57 => ?_⟩
            · try simp only [Int32.lt_iff_toInt_lt, Int32.le_iff_toInt_le, ← Int32.toInt_inj, Int32.toInt_toInt64, tiA, tlA] at c57
              subst hp
              exact ⟨hI, hKr⟩
            · try simp only [Int32.lt_iff_toInt_lt, Int32.le_iff_toInt_le, ← Int32.toInt_inj, Int32.toInt_toInt64, tiA, tlA] at c57
              refine ⟨fun c61 => ?_, fun c61 => ?_⟩
              · try simp only [Int32.lt_iff_toInt_lt, Int32.le_iff_toInt_le, ← Int32.toInt_inj, Int32.toInt_toInt64, tiA, tlA] at c61
                subst hp
                exact ⟨hI, hKr⟩
              · try simp only [Int32.lt_iff_toInt_lt, Int32.le_iff_toInt_le, ← Int32.toInt_inj, Int32.toInt_toInt64, tiA, tlA] at c61
                refine ⟨fun c66 => ?_, fun c66 => ?_⟩
                · try simp only [Int32.lt_iff_toInt_lt, Int32.le_iff_toInt_le, ← Int32.toInt_inj, Int32.toInt_toInt64, tiA, tlA] at c66
                  subst hp
                  exact ⟨hI, hKr⟩
                · try simp only [Int32.lt_iff_toInt_lt, Int32.le_iff_toInt_le, ← Int32.toInt_inj, Int32.toInt_toInt64, tiA, tlA] at c66
                  have hi55 : vp_in a1 6 := vp_of (by first | omega | ((try simp only [Int32.lt_iff_toInt_lt, Int32.le_iff_toInt_le, ← Int32.toInt_inj, Int32.toInt_toInt64, tiA, tlA]); omega) | (split <;> omega)) (by first | omega | ((try simp only [Int32.lt_iff_toInt_lt, Int32.le_iff_toInt_le, ← Int32.toInt_inj, Int32.toInt_toInt64, tiA, tlA]); omega) | (split <;> omega))
                  refine ⟨hi55, ?_⟩
                  have hz56 := vlt hi55
                  have f57 : 0 ≤ (it0 519 a1.toNatClampNeg).toInt ∧ (it0 519 a1.toNatClampNeg).toInt ≤ 60 := i9_f hI (j := 519) (k := a1.toNatClampNeg) rfl
                  try have f58 : (((it0 519 a1.toNatClampNeg) - a2) : Int32).toInt = ((it0 519 a1.toNatClampNeg)).toInt - (a2).toInt := sb32 (a := ((it0 519 a1.toNatClampNeg)).toInt) (b := (a2).toInt) (rfl) (rfl) (by omega) (by omega)
                  refine ⟨fun c79 => ?_, fun c79 => ?_⟩
                  · try simp only [Int32.lt_iff_toInt_lt, Int32.le_iff_toInt_le, ← Int32.toInt_inj, Int32.toInt_toInt64, tiA, tlA] at c79
                    subst hp
                    exact ⟨hI, hKr⟩
                  · try simp only [Int32.lt_iff_toInt_lt, Int32.le_iff_toInt_le, ← Int32.toInt_inj, Int32.toInt_toInt64, tiA, tlA] at c79
                    have hi59 : vp_in a3 6 := vp_of (by first | omega | ((try simp only [Int32.lt_iff_toInt_lt, Int32.le_iff_toInt_le, ← Int32.toInt_inj, Int32.toInt_toInt64, tiA, tlA]); omega) | (split <;> omega)) (by first | omega | ((try simp only [Int32.lt_iff_toInt_lt, Int32.le_iff_toInt_le, ← Int32.toInt_inj, Int32.toInt_toInt64, tiA, tlA]); omega) | (split <;> omega))
                    refine ⟨hi59, ?_⟩
                    have hz60 := vlt hi59
                    have f61 : 0 ≤ (it0 519 a3.toNatClampNeg).toInt ∧ (it0 519 a3.toNatClampNeg).toInt ≤ 60 := i9_f hI (j := 519) (k := a3.toNatClampNeg) rfl
                    try have f62 : (((it0 519 a3.toNatClampNeg) - a4) : Int32).toInt = ((it0 519 a3.toNatClampNeg)).toInt - (a4).toInt := sb32 (a := ((it0 519 a3.toNatClampNeg)).toInt) (b := (a4).toInt) (rfl) (rfl) (by omega) (by omega)
                    refine ⟨fun c93 => ?_, fun c93 => ?_⟩
                    · try simp only [Int32.lt_iff_toInt_lt, Int32.le_iff_toInt_le, ← Int32.toInt_inj, Int32.toInt_toInt64, tiA, tlA] at c93
                      have lp102 : ∀ (n : Nat) (x6 : Int32) (lg : LGt) (it : ITt), I9 lg it → Kd (fun j => j = 520 ∨ j = 521) (fun k => False) lg0 it0 lg it → ((0 ≤ (x6).toInt)) → (61 - (x6).toInt).toNat < n → w_X9_shift_b102 a1 a2 a3 a4 a5 Pz  n x6 lg it := by
                        intro n102
                        induction n102 with
                        | zero => intro x6 lg it _ _ _ hn; exact absurd hn (Nat.not_lt_zero _)
                        | succ n102 ih102 =>
                          intro x6 lg65 it66 hI63 hK64 hv hn
                          unfold w_X9_shift_b102
                          have hv102_0 := hv
                          refine ⟨fun c106 => ?_, fun c106 => ?_⟩
                          · try simp only [Int32.lt_iff_toInt_lt, Int32.le_iff_toInt_le, ← Int32.toInt_inj, Int32.toInt_toInt64, tiA, tlA] at c106
                            have lp139 : ∀ (n : Nat) (x6 : Int32) (lg : LGt) (it : ITt), I9 lg it → Kd (fun j => j = 520 ∨ j = 521) (fun k => False) lg0 it0 lg it → ((0 ≤ (x6).toInt)) → (61 - (x6).toInt).toNat < n → w_X9_shift_b139 a1 a2 a3 a4 a5 Pz  n x6 lg it := by
                              intro n139
                              induction n139 with
                              | zero => intro x6 lg it _ _ _ hn; exact absurd hn (Nat.not_lt_zero _)
                              | succ n139 ih139 =>
                                intro x6 lg69 it70 hI67 hK68 hv hn
                                unfold w_X9_shift_b139
                                have hv139_0 := hv
                                refine ⟨fun c143 => ?_, fun c143 => ?_⟩
                                · try simp only [Int32.lt_iff_toInt_lt, Int32.le_iff_toInt_le, ← Int32.toInt_inj, Int32.toInt_toInt64, tiA, tlA] at c143
                                  subst hp
                                  exact ⟨hI67, hK68⟩
                                · try simp only [Int32.lt_iff_toInt_lt, Int32.le_iff_toInt_le, ← Int32.toInt_inj, Int32.toInt_toInt64, tiA, tlA] at c143
                                  try have f71 : ((60 * a3) : Int32).toInt = 60 * (a3).toInt := ml32 (a := 60) (b := (a3).toInt) (ti_60) (rfl) (by omega) (by omega)
                                  try have f72 : (((60 * a3) + a4) : Int32).toInt = ((60 * a3)).toInt + (a4).toInt := ad32 (a := ((60 * a3)).toInt) (b := (a4).toInt) (rfl) (rfl) (by omega) (by omega)
                                  try have f73 : ((((60 * a3) + a4) + x6) : Int32).toInt = (((60 * a3) + a4)).toInt + (x6).toInt := ad32 (a := (((60 * a3) + a4)).toInt) (b := (x6).toInt) (rfl) (rfl) (by omega) (by omega)
                                  have hi74 : vp_in x6 60 := vp_of (by first | omega | ((try simp only [Int32.lt_iff_toInt_lt, Int32.le_iff_toInt_le, ← Int32.toInt_inj, Int32.toInt_toInt64, tiA, tlA]); omega) | (split <;> omega)) (by first | omega | ((try simp only [Int32.lt_iff_toInt_lt, Int32.le_iff_toInt_le, ← Int32.toInt_inj, Int32.toInt_toInt64, tiA, tlA]); omega) | (split <;> omega))
                                  refine ⟨hi74, ?_⟩
                                  have hz75 := vlt hi74
                                  have hi76 : vp_in (((60 * a3) + a4) + x6) 360 := vp_of (by first | omega | ((try simp only [Int32.lt_iff_toInt_lt, Int32.le_iff_toInt_le, ← Int32.toInt_inj, Int32.toInt_toInt64, tiA, tlA]); omega) | (split <;> omega)) (by first | omega | ((try simp only [Int32.lt_iff_toInt_lt, Int32.le_iff_toInt_le, ← Int32.toInt_inj, Int32.toInt_toInt64, tiA, tlA]); omega) | (split <;> omega))
                                  refine ⟨hi76, ?_⟩
                                  have hz77 := vlt hi76
                                  intro lg78 em79
                                  have hI80 : I9 lg78 it70 := by rw [em79]; exact i9_l hI67 (by decide) (by decide) (by decide)
                                  have hK81 : Kd (fun j => j = 520 ∨ j = 521) (fun k => False) lg0 it0 lg78 it70 := by rw [em79]; exact kd_lr (by decide) (by first | decide | (dsimp only; decide) | omega | (dsimp only; omega)) hK68
                                  try have f82 : ((x6 + 1) : Int32).toInt = (x6).toInt + 1 := ad32 (a := (x6).toInt) (b := 1) (rfl) (ti_1) (by omega) (by omega)
                                  exact ih139 ((x6 + 1)) _ _ hI80 hK81 (by first | exact Nx_0 | omega | assumption) (by omega)
                            have t83 := ti_0
                            exact ⟨_, lp139 ((61 - ((0 : Int32)).toInt).toNat + 1) ((0 : Int32)) _ _ hI63 hK64 (by first | exact Nx_0 | omega | assumption) (Nat.lt_succ_self _)⟩
                          · try simp only [Int32.lt_iff_toInt_lt, Int32.le_iff_toInt_le, ← Int32.toInt_inj, Int32.toInt_toInt64, tiA, tlA] at c106
                            try have f84 : ((60 * a1) : Int32).toInt = 60 * (a1).toInt := ml32 (a := 60) (b := (a1).toInt) (ti_60) (rfl) (by omega) (by omega)
                            try have f85 : (((60 * a1) + a2) : Int32).toInt = ((60 * a1)).toInt + (a2).toInt := ad32 (a := ((60 * a1)).toInt) (b := (a2).toInt) (rfl) (rfl) (by omega) (by omega)
                            try have f86 : ((((60 * a1) + a2) + x6) : Int32).toInt = (((60 * a1) + a2)).toInt + (x6).toInt := ad32 (a := (((60 * a1) + a2)).toInt) (b := (x6).toInt) (rfl) (rfl) (by omega) (by omega)
                            have hi87 : vp_in (((60 * a1) + a2) + x6) 360 := vp_of (by first | omega | ((try simp only [Int32.lt_iff_toInt_lt, Int32.le_iff_toInt_le, ← Int32.toInt_inj, Int32.toInt_toInt64, tiA, tlA]); omega) | (split <;> omega)) (by first | omega | ((try simp only [Int32.lt_iff_toInt_lt, Int32.le_iff_toInt_le, ← Int32.toInt_inj, Int32.toInt_toInt64, tiA, tlA]); omega) | (split <;> omega))
                            refine ⟨hi87, ?_⟩
                            have hz88 := vlt hi87
                            have hi89 : vp_in x6 60 := vp_of (by first | omega | ((try simp only [Int32.lt_iff_toInt_lt, Int32.le_iff_toInt_le, ← Int32.toInt_inj, Int32.toInt_toInt64, tiA, tlA]); omega) | (split <;> omega)) (by first | omega | ((try simp only [Int32.lt_iff_toInt_lt, Int32.le_iff_toInt_le, ← Int32.toInt_inj, Int32.toInt_toInt64, tiA, tlA]); omega) | (split <;> omega))
                            refine ⟨hi89, ?_⟩
                            have hz90 := vlt hi89
                            intro lg91 em92
                            have hI93 : I9 lg91 it66 := by rw [em92]; exact i9_l hI63 (by decide) (by decide) (by decide)
                            have hK94 : Kd (fun j => j = 520 ∨ j = 521) (fun k => False) lg0 it0 lg91 it66 := by rw [em92]; exact kd_lr (by decide) (by first | decide | (dsimp only; decide) | omega | (dsimp only; omega)) hK64
                            try have f95 : ((x6 + 1) : Int32).toInt = (x6).toInt + 1 := ad32 (a := (x6).toInt) (b := 1) (rfl) (ti_1) (by omega) (by omega)
                            exact ih102 ((x6 + 1)) _ _ hI93 hK94 (by first | exact Nx_0 | omega | assumption) (by omega)
                      have t96 := ti_0
                      exact ⟨_, lp102 ((61 - ((0 : Int32)).toInt).toNat + 1) ((0 : Int32)) _ _ hI hKr (by first | exact Nx_0 | omega | assumption) (Nat.lt_succ_self _)⟩
                    · try simp only [Int32.lt_iff_toInt_lt, Int32.le_iff_toInt_le, ← Int32.toInt_inj, Int32.toInt_toInt64, tiA, tlA] at c93
                      subst hp
                      exact ⟨hI, hKr⟩
          · try simp only [Int32.lt_iff_toInt_lt, Int32.le_iff_toInt_le, ← Int32.toInt_inj, Int32.toInt_toInt64, tiA, tlA] at c49
            subst hp
            exact ⟨hI, hKr⟩
        · try simp only [Int32.lt_iff_toInt_lt, Int32.le_iff_toInt_le, ← Int32.toInt_inj, Int32.toInt_toInt64, tiA, tlA] at c31
          subst hp
          exact ⟨hI, hKr⟩
    · try simp only [Int32.lt_iff_toInt_lt, Int32.le_iff_toInt_le, ← Int32.toInt_inj, Int32.toInt_toInt64, tiA, tlA] at c11
      subst hp
      exact ⟨hI, hKr⟩
