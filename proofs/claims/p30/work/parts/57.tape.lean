/-! what tape answers, on both sides -/
def tapeA (a b c : Int32) : Int32 := if ¬ (0 ≤ a.toInt ∧ a.toInt ≤ 5) then -1 else if ¬ (-1 ≤ b.toInt ∧ b.toInt ≤ 4) ∨ (0 ≤ b.toInt ∧ 60 < c.toInt) then -2 else if 0 ≤ b.toInt ∧ c.toInt < 0 then -14 else 1
theorem tp_n {a b c : Int32} (h : ¬ (0 ≤ a.toInt ∧ a.toInt ≤ 5)) : (-1 : Int32) = tapeA a b c := by unfold tapeA; rw [if_pos h]
theorem tp_b {a b c : Int32} (h : 0 ≤ a.toInt ∧ a.toInt ≤ 5) (h2 : ¬ (-1 ≤ b.toInt ∧ b.toInt ≤ 4) ∨ (0 ≤ b.toInt ∧ 60 < c.toInt)) : (-2 : Int32) = tapeA a b c := by unfold tapeA; rw [if_neg (fun q => q h), if_pos h2]
theorem tp_s {a b c : Int32} (h : 0 ≤ a.toInt ∧ a.toInt ≤ 5) (h2 : ¬ (¬ (-1 ≤ b.toInt ∧ b.toInt ≤ 4) ∨ (0 ≤ b.toInt ∧ 60 < c.toInt))) (h3 : 0 ≤ b.toInt ∧ c.toInt < 0) : (-14 : Int32) = tapeA a b c := by unfold tapeA; rw [if_neg (fun q => q h), if_neg h2, if_pos h3]
theorem tp_1 {a b c : Int32} (h : 0 ≤ a.toInt ∧ a.toInt ≤ 5) (h2 : ¬ (¬ (-1 ≤ b.toInt ∧ b.toInt ≤ 4) ∨ (0 ≤ b.toInt ∧ 60 < c.toInt))) (h3 : ¬ (0 ≤ b.toInt ∧ c.toInt < 0)) : (1 : Int32) = tapeA a b c := by unfold tapeA; rw [if_neg (fun q => q h), if_neg h2, if_neg h3]
set_option maxRecDepth 100000 in
theorem t_X8_tape (a1 : Int32) (a2 : Int32) (a3 : Int32) {lg0 : LGt} {it0 : ITt} (hI : I8 lg0 it0) : w_X8_tape a1 a2 a3 (fun (v : Int32) (lg' : LGt) (it' : ITt) => (I8 lg' it' ∧ Kc (fun j => (473 ≤ j ∧ j < 486)) lg0 it0 lg' it') ∧ (v = tapeA a1 a2 a3))  lg0 it0 := by
  have hb_a1 := And.intro a1.le_toInt a1.toInt_lt
  have hb_a2 := And.intro a2.le_toInt a2.toInt_lt
  have hb_a3 := And.intro a3.le_toInt a3.toInt_lt
  have hKr : Kc (fun j => (473 ≤ j ∧ j < 486)) lg0 it0 lg0 it0 := kc_r
  generalize hp : (fun (v : Int32) (lg' : LGt) (it' : ITt) => (I8 lg' it' ∧ Kc (fun j => (473 ≤ j ∧ j < 486)) lg0 it0 lg' it') ∧ (v = tapeA a1 a2 a3)) = Pz
  unfold w_X8_tape
  refine ⟨fun c4 => ?_, fun c4 => ?_⟩
  · try simp only [Int32.lt_iff_toInt_lt, Int32.le_iff_toInt_le, ← Int32.toInt_inj, Int32.toInt_toInt64, tiA, tlA] at c4
    refine ⟨fun c11 => ?_, fun c11 => ?_⟩
    · try simp only [Int32.lt_iff_toInt_lt, Int32.le_iff_toInt_le, ← Int32.toInt_inj, Int32.toInt_toInt64, tiA, tlA] at c11
      subst hp
      exact ⟨⟨hI, hKr⟩, by first | exact tp_n (by omega) | exact tp_b (by omega) (by omega) | exact tp_s (by omega) (by omega) (by omega) | exact tp_1 (by omega) (by omega) (by omega)⟩
    · try simp only [Int32.lt_iff_toInt_lt, Int32.le_iff_toInt_le, ← Int32.toInt_inj, Int32.toInt_toInt64, tiA, tlA] at c11
      refine ⟨fun c16 => ?_, fun c16 => ?_⟩
      · try simp only [Int32.lt_iff_toInt_lt, Int32.le_iff_toInt_le, ← Int32.toInt_inj, Int32.toInt_toInt64, tiA, tlA] at c16
        refine ⟨fun c24 => ?_, fun c24 => ?_⟩
        · try simp only [Int32.lt_iff_toInt_lt, Int32.le_iff_toInt_le, ← Int32.toInt_inj, Int32.toInt_toInt64, tiA, tlA] at c24
          unfold w_X8_tape_b36
          refine ⟨fun c38 => ?_, fun c38 => ?_⟩
          · try simp only [Int32.lt_iff_toInt_lt, Int32.le_iff_toInt_le, ← Int32.toInt_inj, Int32.toInt_toInt64, tiA, tlA] at c38
            unfold w_X8_tape_b48
            have hi26 : vp_in a1 6 := vp_of (by first | omega | ((try simp only [Int32.lt_iff_toInt_lt, Int32.le_iff_toInt_le, ← Int32.toInt_inj, Int32.toInt_toInt64, tiA, tlA]); omega) | (split <;> omega)) (by first | omega | ((try simp only [Int32.lt_iff_toInt_lt, Int32.le_iff_toInt_le, ← Int32.toInt_inj, Int32.toInt_toInt64, tiA, tlA]); omega) | (split <;> omega))
            refine ⟨hi26, ?_⟩
            have hz27 := vlt hi26
            refine ⟨fun c57 => ?_, fun c57 => ?_⟩
            · try simp only [Int32.lt_iff_toInt_lt, Int32.le_iff_toInt_le, ← Int32.toInt_inj, Int32.toInt_toInt64, tiA, tlA] at c57
              unfold w_X8_tape_b65
              refine ⟨_, s_X6_renewAs ((rtp (vlt (hi26)))) (a2) (a3) hI (by first | omega | (constructor <;> first | omega | ((try simp only [Int32.lt_iff_toInt_lt, Int32.le_iff_toInt_le, ← Int32.toInt_inj, Int32.toInt_toInt64, tiA, tlA]); omega))), ?_⟩
              intro lg28 it29 hq
              obtain ⟨hI30, hK31⟩ := hq
              have hK32 : Kc (fun j => (473 ≤ j ∧ j < 486)) lg0 it0 lg28 it29 := kc_t hKr hK31 (fun j hj => by first | omega | exact False.elim hj | (dsimp only at hj ⊢; omega))
              subst hp
              exact ⟨⟨hI30, hK32⟩, by first | exact tp_n (by omega) | exact tp_b (by omega) (by omega) | exact tp_s (by omega) (by omega) (by omega) | exact tp_1 (by omega) (by omega) (by omega)⟩
            · try simp only [Int32.lt_iff_toInt_lt, Int32.le_iff_toInt_le, ← Int32.toInt_inj, Int32.toInt_toInt64, tiA, tlA] at c57
              unfold w_X8_tape_b65
              refine ⟨_, s_X6_renewAs ((rtp (vlt (hi26)))) (a2) ((0 : Int32)) hI (by first | omega | (constructor <;> first | omega | ((try simp only [Int32.lt_iff_toInt_lt, Int32.le_iff_toInt_le, ← Int32.toInt_inj, Int32.toInt_toInt64, tiA, tlA]); omega))), ?_⟩
              intro lg35 it36 hq
              obtain ⟨hI37, hK38⟩ := hq
              have hK39 : Kc (fun j => (473 ≤ j ∧ j < 486)) lg0 it0 lg35 it36 := kc_t hKr hK38 (fun j hj => by first | omega | exact False.elim hj | (dsimp only at hj ⊢; omega))
              subst hp
              exact ⟨⟨hI37, hK39⟩, by first | exact tp_n (by omega) | exact tp_b (by omega) (by omega) | exact tp_s (by omega) (by omega) (by omega) | exact tp_1 (by omega) (by omega) (by omega)⟩
          · try simp only [Int32.lt_iff_toInt_lt, Int32.le_iff_toInt_le, ← Int32.toInt_inj, Int32.toInt_toInt64, tiA, tlA] at c38
            refine ⟨fun c42 => ?_, fun c42 => ?_⟩
            · try simp only [Int32.lt_iff_toInt_lt, Int32.le_iff_toInt_le, ← Int32.toInt_inj, Int32.toInt_toInt64, tiA, tlA] at c42
              unfold w_X8_tape_b48
              have hi42 : vp_in a1 6 := vp_of (by first | omega | ((try simp only [Int32.lt_iff_toInt_lt, Int32.le_iff_toInt_le, ← Int32.toInt_inj, Int32.toInt_toInt64, tiA, tlA]); omega) | (split <;> omega)) (by first | omega | ((try simp only [Int32.lt_iff_toInt_lt, Int32.le_iff_toInt_le, ← Int32.toInt_inj, Int32.toInt_toInt64, tiA, tlA]); omega) | (split <;> omega))
              refine ⟨hi42, ?_⟩
              have hz43 := vlt hi42
              refine ⟨fun c57 => ?_, fun c57 => ?_⟩
              · try simp only [Int32.lt_iff_toInt_lt, Int32.le_iff_toInt_le, ← Int32.toInt_inj, Int32.toInt_toInt64, tiA, tlA] at c57
                unfold w_X8_tape_b65
                refine ⟨_, s_X6_renewAs ((rtp (vlt (hi42)))) (a2) (a3) hI (by first | omega | (constructor <;> first | omega | ((try simp only [Int32.lt_iff_toInt_lt, Int32.le_iff_toInt_le, ← Int32.toInt_inj, Int32.toInt_toInt64, tiA, tlA]); omega))), ?_⟩
                intro lg44 it45 hq
                obtain ⟨hI46, hK47⟩ := hq
                have hK48 : Kc (fun j => (473 ≤ j ∧ j < 486)) lg0 it0 lg44 it45 := kc_t hKr hK47 (fun j hj => by first | omega | exact False.elim hj | (dsimp only at hj ⊢; omega))
                subst hp
                exact ⟨⟨hI46, hK48⟩, by first | exact tp_n (by omega) | exact tp_b (by omega) (by omega) | exact tp_s (by omega) (by omega) (by omega) | exact tp_1 (by omega) (by omega) (by omega)⟩
              · try simp only [Int32.lt_iff_toInt_lt, Int32.le_iff_toInt_le, ← Int32.toInt_inj, Int32.toInt_toInt64, tiA, tlA] at c57
                unfold w_X8_tape_b65
                refine ⟨_, s_X6_renewAs ((rtp (vlt (hi42)))) (a2) ((0 : Int32)) hI (by first | omega | (constructor <;> first | omega | ((try simp only [Int32.lt_iff_toInt_lt, Int32.le_iff_toInt_le, ← Int32.toInt_inj, Int32.toInt_toInt64, tiA, tlA]); omega))), ?_⟩
                intro lg51 it52 hq
                obtain ⟨hI53, hK54⟩ := hq
                have hK55 : Kc (fun j => (473 ≤ j ∧ j < 486)) lg0 it0 lg51 it52 := kc_t hKr hK54 (fun j hj => by first | omega | exact False.elim hj | (dsimp only at hj ⊢; omega))
                subst hp
                exact ⟨⟨hI53, hK55⟩, by first | exact tp_n (by omega) | exact tp_b (by omega) (by omega) | exact tp_s (by omega) (by omega) (by omega) | exact tp_1 (by omega) (by omega) (by omega)⟩
            · try simp only [Int32.lt_iff_toInt_lt, Int32.le_iff_toInt_le, ← Int32.toInt_inj, Int32.toInt_toInt64, tiA, tlA] at c42
              subst hp
              exact ⟨⟨hI, hKr⟩, by first | exact tp_n (by omega) | exact tp_b (by omega) (by omega) | exact tp_s (by omega) (by omega) (by omega) | exact tp_1 (by omega) (by omega) (by omega)⟩
        · try simp only [Int32.lt_iff_toInt_lt, Int32.le_iff_toInt_le, ← Int32.toInt_inj, Int32.toInt_toInt64, tiA, tlA] at c24
          refine ⟨fun c30 => ?_, fun c30 => ?_⟩
          · try simp only [Int32.lt_iff_toInt_lt, Int32.le_iff_toInt_le, ← Int32.toInt_inj, Int32.toInt_toInt64, tiA, tlA] at c30
            unfold w_X8_tape_b36
            refine ⟨fun c38 => ?_, fun c38 => ?_⟩
            · try simp only [Int32.lt_iff_toInt_lt, Int32.le_iff_toInt_le, ← Int32.toInt_inj, Int32.toInt_toInt64, tiA, tlA] at c38
              unfold w_X8_tape_b48
              have hi58 : vp_in a1 6 := vp_of (by first | omega | ((try simp only [Int32.lt_iff_toInt_lt, Int32.le_iff_toInt_le, ← Int32.toInt_inj, Int32.toInt_toInt64, tiA, tlA]); omega) | (split <;> omega)) (by first | omega | ((try simp only [Int32.lt_iff_toInt_lt, Int32.le_iff_toInt_le, ← Int32.toInt_inj, Int32.toInt_toInt64, tiA, tlA]); omega) | (split <;> omega))
              refine ⟨hi58, ?_⟩
              have hz59 := vlt hi58
              refine ⟨fun c57 => ?_, fun c57 => ?_⟩
              · try simp only [Int32.lt_iff_toInt_lt, Int32.le_iff_toInt_le, ← Int32.toInt_inj, Int32.toInt_toInt64, tiA, tlA] at c57
                unfold w_X8_tape_b65
                refine ⟨_, s_X6_renewAs ((rtp (vlt (hi58)))) (a2) (a3) hI (by first | omega | (constructor <;> first | omega | ((try simp only [Int32.lt_iff_toInt_lt, Int32.le_iff_toInt_le, ← Int32.toInt_inj, Int32.toInt_toInt64, tiA, tlA]); omega))), ?_⟩
                intro lg60 it61 hq
                obtain ⟨hI62, hK63⟩ := hq
                have hK64 : Kc (fun j => (473 ≤ j ∧ j < 486)) lg0 it0 lg60 it61 := kc_t hKr hK63 (fun j hj => by first | omega | exact False.elim hj | (dsimp only at hj ⊢; omega))
                subst hp
                exact ⟨⟨hI62, hK64⟩, by first | exact tp_n (by omega) | exact tp_b (by omega) (by omega) | exact tp_s (by omega) (by omega) (by omega) | exact tp_1 (by omega) (by omega) (by omega)⟩
              · try simp only [Int32.lt_iff_toInt_lt, Int32.le_iff_toInt_le, ← Int32.toInt_inj, Int32.toInt_toInt64, tiA, tlA] at c57
                unfold w_X8_tape_b65
                refine ⟨_, s_X6_renewAs ((rtp (vlt (hi58)))) (a2) ((0 : Int32)) hI (by first | omega | (constructor <;> first | omega | ((try simp only [Int32.lt_iff_toInt_lt, Int32.le_iff_toInt_le, ← Int32.toInt_inj, Int32.toInt_toInt64, tiA, tlA]); omega))), ?_⟩
                intro lg67 it68 hq
                obtain ⟨hI69, hK70⟩ := hq
                have hK71 : Kc (fun j => (473 ≤ j ∧ j < 486)) lg0 it0 lg67 it68 := kc_t hKr hK70 (fun j hj => by first | omega | exact False.elim hj | (dsimp only at hj ⊢; omega))
                subst hp
                exact ⟨⟨hI69, hK71⟩, by first | exact tp_n (by omega) | exact tp_b (by omega) (by omega) | exact tp_s (by omega) (by omega) (by omega) | exact tp_1 (by omega) (by omega) (by omega)⟩
            · try simp only [Int32.lt_iff_toInt_lt, Int32.le_iff_toInt_le, ← Int32.toInt_inj, Int32.toInt_toInt64, tiA, tlA] at c38
              refine ⟨fun c42 => ?_, fun c42 => ?_⟩
              · try simp only [Int32.lt_iff_toInt_lt, Int32.le_iff_toInt_le, ← Int32.toInt_inj, Int32.toInt_toInt64, tiA, tlA] at c42
                unfold w_X8_tape_b48
                have hi74 : vp_in a1 6 := vp_of (by first | omega | ((try simp only [Int32.lt_iff_toInt_lt, Int32.le_iff_toInt_le, ← Int32.toInt_inj, Int32.toInt_toInt64, tiA, tlA]); omega) | (split <;> omega)) (by first | omega | ((try simp only [Int32.lt_iff_toInt_lt, Int32.le_iff_toInt_le, ← Int32.toInt_inj, Int32.toInt_toInt64, tiA, tlA]); omega) | (split <;> omega))
                refine ⟨hi74, ?_⟩
                have hz75 := vlt hi74
                refine ⟨fun c57 => ?_, fun c57 => ?_⟩
                · try simp only [Int32.lt_iff_toInt_lt, Int32.le_iff_toInt_le, ← Int32.toInt_inj, Int32.toInt_toInt64, tiA, tlA] at c57
                  unfold w_X8_tape_b65
                  refine ⟨_, s_X6_renewAs ((rtp (vlt (hi74)))) (a2) (a3) hI (by first | omega | (constructor <;> first | omega | ((try simp only [Int32.lt_iff_toInt_lt, Int32.le_iff_toInt_le, ← Int32.toInt_inj, Int32.toInt_toInt64, tiA, tlA]); omega))), ?_⟩
                  intro lg76 it77 hq
                  obtain ⟨hI78, hK79⟩ := hq
                  have hK80 : Kc (fun j => (473 ≤ j ∧ j < 486)) lg0 it0 lg76 it77 := kc_t hKr hK79 (fun j hj => by first | omega | exact False.elim hj | (dsimp only at hj ⊢; omega))
                  subst hp
                  exact ⟨⟨hI78, hK80⟩, by first | exact tp_n (by omega) | exact tp_b (by omega) (by omega) | exact tp_s (by omega) (by omega) (by omega) | exact tp_1 (by omega) (by omega) (by omega)⟩
                · try simp only [Int32.lt_iff_toInt_lt, Int32.le_iff_toInt_le, ← Int32.toInt_inj, Int32.toInt_toInt64, tiA, tlA] at c57
                  unfold w_X8_tape_b65
                  refine ⟨_, s_X6_renewAs ((rtp (vlt (hi74)))) (a2) ((0 : Int32)) hI (by first | omega | (constructor <;> first | omega | ((try simp only [Int32.lt_iff_toInt_lt, Int32.le_iff_toInt_le, ← Int32.toInt_inj, Int32.toInt_toInt64, tiA, tlA]); omega))), ?_⟩
                  intro lg83 it84 hq
                  obtain ⟨hI85, hK86⟩ := hq
                  have hK87 : Kc (fun j => (473 ≤ j ∧ j < 486)) lg0 it0 lg83 it84 := kc_t hKr hK86 (fun j hj => by first | omega | exact False.elim hj | (dsimp only at hj ⊢; omega))
                  subst hp
                  exact ⟨⟨hI85, hK87⟩, by first | exact tp_n (by omega) | exact tp_b (by omega) (by omega) | exact tp_s (by omega) (by omega) (by omega) | exact tp_1 (by omega) (by omega) (by omega)⟩
              · try simp only [Int32.lt_iff_toInt_lt, Int32.le_iff_toInt_le, ← Int32.toInt_inj, Int32.toInt_toInt64, tiA, tlA] at c42
                subst hp
                exact ⟨⟨hI, hKr⟩, by first | exact tp_n (by omega) | exact tp_b (by omega) (by omega) | exact tp_s (by omega) (by omega) (by omega) | exact tp_1 (by omega) (by omega) (by omega)⟩
          · try simp only [Int32.lt_iff_toInt_lt, Int32.le_iff_toInt_le, ← Int32.toInt_inj, Int32.toInt_toInt64, tiA, tlA] at c30
            subst hp
            exact ⟨⟨hI, hKr⟩, by first | exact tp_n (by omega) | exact tp_b (by omega) (by omega) | exact tp_s (by omega) (by omega) (by omega) | exact tp_1 (by omega) (by omega) (by omega)⟩
      · try simp only [Int32.lt_iff_toInt_lt, Int32.le_iff_toInt_le, ← Int32.toInt_inj, Int32.toInt_toInt64, tiA, tlA] at c16
        subst hp
        exact ⟨⟨hI, hKr⟩, by first | exact tp_n (by omega) | exact tp_b (by omega) (by omega) | exact tp_s (by omega) (by omega) (by omega) | exact tp_1 (by omega) (by omega) (by omega)⟩
  · try simp only [Int32.lt_iff_toInt_lt, Int32.le_iff_toInt_le, ← Int32.toInt_inj, Int32.toInt_toInt64, tiA, tlA] at c4
    subst hp
    exact ⟨⟨hI, hKr⟩, by first | exact tp_n (by omega) | exact tp_b (by omega) (by omega) | exact tp_s (by omega) (by omega) (by omega) | exact tp_1 (by omega) (by omega) (by omega)⟩
set_option maxRecDepth 100000 in
theorem t_X9_tape (a1 : Int32) (a2 : Int32) (a3 : Int32) {lg0 : LGt} {it0 : ITt} (hI : I9 lg0 it0) : w_X9_tape a1 a2 a3 (fun (v : Int32) (lg' : LGt) (it' : ITt) => (I9 lg' it' ∧ Kd (fun j => j = 518 ∨ j = 519 ∨ j = 520) (fun k => False) lg0 it0 lg' it') ∧ (v = tapeA a1 a2 a3))  lg0 it0 := by
  have hb_a1 := And.intro a1.le_toInt a1.toInt_lt
  have hb_a2 := And.intro a2.le_toInt a2.toInt_lt
  have hb_a3 := And.intro a3.le_toInt a3.toInt_lt
  have hKr : Kd (fun j => j = 518 ∨ j = 519 ∨ j = 520) (fun k => False) lg0 it0 lg0 it0 := kd_r
  generalize hp : (fun (v : Int32) (lg' : LGt) (it' : ITt) => (I9 lg' it' ∧ Kd (fun j => j = 518 ∨ j = 519 ∨ j = 520) (fun k => False) lg0 it0 lg' it') ∧ (v = tapeA a1 a2 a3)) = Pz
  unfold w_X9_tape
  have t0 := ti_0
  have t9 := ti_9
  have tm1 := ti_m1
  refine ⟨fun c4 => ?_, fun c4 => ?_⟩
  · try simp only [Int32.lt_iff_toInt_lt, Int32.le_iff_toInt_le, ← Int32.toInt_inj, Int32.toInt_toInt64, tiA, tlA] at c4
    refine ⟨fun c20 => ?_, fun c20 => ?_⟩
    · try simp only [Int32.lt_iff_toInt_lt, Int32.le_iff_toInt_le, ← Int32.toInt_inj, Int32.toInt_toInt64, tiA, tlA] at c20
      subst hp
      exact ⟨⟨hI, hKr⟩, by first | exact tp_n (by omega) | exact tp_b (by omega) (by omega) | exact tp_s (by omega) (by omega) (by omega) | exact tp_1 (by omega) (by omega) (by omega)⟩
    · try simp only [Int32.lt_iff_toInt_lt, Int32.le_iff_toInt_le, ← Int32.toInt_inj, Int32.toInt_toInt64, tiA, tlA] at c20
      refine ⟨fun c24 => ?_, fun c24 => ?_⟩
      · try simp only [Int32.lt_iff_toInt_lt, Int32.le_iff_toInt_le, ← Int32.toInt_inj, Int32.toInt_toInt64, tiA, tlA] at c24
        unfold w_X9_tape_b36
        refine ⟨fun c37 => ?_, fun c37 => ?_⟩
        · try simp only [Int32.lt_iff_toInt_lt, Int32.le_iff_toInt_le, ← Int32.toInt_inj, Int32.toInt_toInt64, tiA, tlA] at c37
          unfold w_X9_tape_b47
          have hi29 : vp_in a1 6 := vp_of (by first | omega | ((try simp only [Int32.lt_iff_toInt_lt, Int32.le_iff_toInt_le, ← Int32.toInt_inj, Int32.toInt_toInt64, tiA, tlA]); omega) | (split <;> omega)) (by first | omega | ((try simp only [Int32.lt_iff_toInt_lt, Int32.le_iff_toInt_le, ← Int32.toInt_inj, Int32.toInt_toInt64, tiA, tlA]); omega) | (split <;> omega))
          refine ⟨hi29, ?_⟩
          have hz30 := vlt hi29
          intro it31 em32
          have hI33 : I9 lg0 it31 := by rw [em32]; exact i9_u hI (ok9_n rfl) (by decide) (fun q => absurd q (by decide))
          have hK34 : Kd (fun j => j = 518 ∨ j = 519 ∨ j = 520) (fun k => False) lg0 it0 lg0 it31 := by rw [em32]; exact kd_ur (by decide) (by first | decide | (dsimp only; decide) | omega | (dsimp only; omega)) hKr
          refine ⟨fun c60 => ?_, fun c60 => ?_⟩
          · try simp only [Int32.lt_iff_toInt_lt, Int32.le_iff_toInt_le, ← Int32.toInt_inj, Int32.toInt_toInt64, tiA, tlA] at c60
            have hi35 : vp_in a1 6 := vp_of (by first | omega | ((try simp only [Int32.lt_iff_toInt_lt, Int32.le_iff_toInt_le, ← Int32.toInt_inj, Int32.toInt_toInt64, tiA, tlA]); omega) | (split <;> omega)) (by first | omega | ((try simp only [Int32.lt_iff_toInt_lt, Int32.le_iff_toInt_le, ← Int32.toInt_inj, Int32.toInt_toInt64, tiA, tlA]); omega) | (split <;> omega))
            refine ⟨hi35, ?_⟩
            have hz36 := vlt hi35
            intro it37 em38
            have hI39 : I9 lg0 it37 := by rw [em38]; exact i9_u hI33 (ok9_b (a := 0) (b := 60) rfl (by first | decide | ((try simp only [Int32.lt_iff_toInt_lt, Int32.le_iff_toInt_le, ← Int32.toInt_inj, Int32.toInt_toInt64, tiA, tlA]); omega) | (split <;> (try simp only [Int32.lt_iff_toInt_lt, Int32.le_iff_toInt_le, ← Int32.toInt_inj, Int32.toInt_toInt64, tiA, tlA]) <;> omega))) (by decide) (fun q => absurd q (by decide))
            have hK40 : Kd (fun j => j = 518 ∨ j = 519 ∨ j = 520) (fun k => False) lg0 it0 lg0 it37 := by rw [em38]; exact kd_ur (by decide) (by first | decide | (dsimp only; decide) | omega | (dsimp only; omega)) hK34
            have lp72 : ∀ (n : Nat) (x4 : Int32) (lg : LGt) (it : ITt), I9 lg it → Kd (fun j => j = 518 ∨ j = 519 ∨ j = 520) (fun k => False) lg0 it0 lg it → ((0 ≤ (x4).toInt)) → (61 - (x4).toInt).toNat < n → w_X9_tape_b72 a1 a2 a3 Pz  n x4 lg it := by
              intro n72
              induction n72 with
              | zero => intro x4 lg it _ _ _ hn; exact absurd hn (Nat.not_lt_zero _)
              | succ n72 ih72 =>
                intro x4 lg43 it44 hI41 hK42 hv hn
                unfold w_X9_tape_b72
                have hv72_0 := hv
                refine ⟨fun c76 => ?_, fun c76 => ?_⟩
                · try simp only [Int32.lt_iff_toInt_lt, Int32.le_iff_toInt_le, ← Int32.toInt_inj, Int32.toInt_toInt64, tiA, tlA] at c76
                  subst hp
                  exact ⟨⟨hI41, hK42⟩, by first | exact tp_n (by omega) | exact tp_b (by omega) (by omega) | exact tp_s (by omega) (by omega) (by omega) | exact tp_1 (by omega) (by omega) (by omega)⟩
                · try simp only [Int32.lt_iff_toInt_lt, Int32.le_iff_toInt_le, ← Int32.toInt_inj, Int32.toInt_toInt64, tiA, tlA] at c76
                  try have f45 : ((60 * a1) : Int32).toInt = 60 * (a1).toInt := ml32 (a := 60) (b := (a1).toInt) (ti_60) (rfl) (by omega) (by omega)
                  try have f46 : (((60 * a1) + x4) : Int32).toInt = ((60 * a1)).toInt + (x4).toInt := ad32 (a := ((60 * a1)).toInt) (b := (x4).toInt) (rfl) (rfl) (by omega) (by omega)
                  have hi47 : vp_in ((60 * a1) + x4) 360 := vp_of (by first | omega | ((try simp only [Int32.lt_iff_toInt_lt, Int32.le_iff_toInt_le, ← Int32.toInt_inj, Int32.toInt_toInt64, tiA, tlA]); omega) | (split <;> omega)) (by first | omega | ((try simp only [Int32.lt_iff_toInt_lt, Int32.le_iff_toInt_le, ← Int32.toInt_inj, Int32.toInt_toInt64, tiA, tlA]); omega) | (split <;> omega))
                  refine ⟨hi47, ?_⟩
                  have hz48 := vlt hi47
                  intro lg49 em50
                  have hI51 : I9 lg49 it44 := by rw [em50]; exact i9_l hI41 (by decide) (by decide) (by decide)
                  have hK52 : Kd (fun j => j = 518 ∨ j = 519 ∨ j = 520) (fun k => False) lg0 it0 lg49 it44 := by rw [em50]; exact kd_lr (by decide) (by first | decide | (dsimp only; decide) | omega | (dsimp only; omega)) hK42
                  try have f53 : ((x4 + 1) : Int32).toInt = (x4).toInt + 1 := ad32 (a := (x4).toInt) (b := 1) (rfl) (ti_1) (by omega) (by omega)
                  exact ih72 ((x4 + 1)) _ _ hI51 hK52 (by first | exact Nx_0 | omega | assumption) (by omega)
            have t54 := ti_0
            exact ⟨_, lp72 ((61 - ((0 : Int32)).toInt).toNat + 1) ((0 : Int32)) _ _ hI39 hK40 (by first | exact Nx_0 | omega | assumption) (Nat.lt_succ_self _)⟩
          · try simp only [Int32.lt_iff_toInt_lt, Int32.le_iff_toInt_le, ← Int32.toInt_inj, Int32.toInt_toInt64, tiA, tlA] at c60
            have hi55 : vp_in a1 6 := vp_of (by first | omega | ((try simp only [Int32.lt_iff_toInt_lt, Int32.le_iff_toInt_le, ← Int32.toInt_inj, Int32.toInt_toInt64, tiA, tlA]); omega) | (split <;> omega)) (by first | omega | ((try simp only [Int32.lt_iff_toInt_lt, Int32.le_iff_toInt_le, ← Int32.toInt_inj, Int32.toInt_toInt64, tiA, tlA]); omega) | (split <;> omega))
            refine ⟨hi55, ?_⟩
            have hz56 := vlt hi55
            intro it57 em58
            have hI59 : I9 lg0 it57 := by rw [em58]; exact i9_u hI33 (ok9_b (a := 0) (b := 60) rfl (by first | decide | ((try simp only [Int32.lt_iff_toInt_lt, Int32.le_iff_toInt_le, ← Int32.toInt_inj, Int32.toInt_toInt64, tiA, tlA]); omega) | (split <;> (try simp only [Int32.lt_iff_toInt_lt, Int32.le_iff_toInt_le, ← Int32.toInt_inj, Int32.toInt_toInt64, tiA, tlA]) <;> omega))) (by decide) (fun q => absurd q (by decide))
            have hK60 : Kd (fun j => j = 518 ∨ j = 519 ∨ j = 520) (fun k => False) lg0 it0 lg0 it57 := by rw [em58]; exact kd_ur (by decide) (by first | decide | (dsimp only; decide) | omega | (dsimp only; omega)) hK34
            have lp72 : ∀ (n : Nat) (x4 : Int32) (lg : LGt) (it : ITt), I9 lg it → Kd (fun j => j = 518 ∨ j = 519 ∨ j = 520) (fun k => False) lg0 it0 lg it → ((0 ≤ (x4).toInt)) → (61 - (x4).toInt).toNat < n → w_X9_tape_b72 a1 a2 a3 Pz  n x4 lg it := by
              intro n72
              induction n72 with
              | zero => intro x4 lg it _ _ _ hn; exact absurd hn (Nat.not_lt_zero _)
              | succ n72 ih72 =>
                intro x4 lg63 it64 hI61 hK62 hv hn
                unfold w_X9_tape_b72
                have hv72_0 := hv
                refine ⟨fun c76 => ?_, fun c76 => ?_⟩
                · try simp only [Int32.lt_iff_toInt_lt, Int32.le_iff_toInt_le, ← Int32.toInt_inj, Int32.toInt_toInt64, tiA, tlA] at c76
                  subst hp
                  exact ⟨⟨hI61, hK62⟩, by first | exact tp_n (by omega) | exact tp_b (by omega) (by omega) | exact tp_s (by omega) (by omega) (by omega) | exact tp_1 (by omega) (by omega) (by omega)⟩
                · try simp only [Int32.lt_iff_toInt_lt, Int32.le_iff_toInt_le, ← Int32.toInt_inj, Int32.toInt_toInt64, tiA, tlA] at c76
                  try have f65 : ((60 * a1) : Int32).toInt = 60 * (a1).toInt := ml32 (a := 60) (b := (a1).toInt) (ti_60) (rfl) (by omega) (by omega)
                  try have f66 : (((60 * a1) + x4) : Int32).toInt = ((60 * a1)).toInt + (x4).toInt := ad32 (a := ((60 * a1)).toInt) (b := (x4).toInt) (rfl) (rfl) (by omega) (by omega)
                  have hi67 : vp_in ((60 * a1) + x4) 360 := vp_of (by first | omega | ((try simp only [Int32.lt_iff_toInt_lt, Int32.le_iff_toInt_le, ← Int32.toInt_inj, Int32.toInt_toInt64, tiA, tlA]); omega) | (split <;> omega)) (by first | omega | ((try simp only [Int32.lt_iff_toInt_lt, Int32.le_iff_toInt_le, ← Int32.toInt_inj, Int32.toInt_toInt64, tiA, tlA]); omega) | (split <;> omega))
                  refine ⟨hi67, ?_⟩
                  have hz68 := vlt hi67
                  intro lg69 em70
                  have hI71 : I9 lg69 it64 := by rw [em70]; exact i9_l hI61 (by decide) (by decide) (by decide)
                  have hK72 : Kd (fun j => j = 518 ∨ j = 519 ∨ j = 520) (fun k => False) lg0 it0 lg69 it64 := by rw [em70]; exact kd_lr (by decide) (by first | decide | (dsimp only; decide) | omega | (dsimp only; omega)) hK62
                  try have f73 : ((x4 + 1) : Int32).toInt = (x4).toInt + 1 := ad32 (a := (x4).toInt) (b := 1) (rfl) (ti_1) (by omega) (by omega)
                  exact ih72 ((x4 + 1)) _ _ hI71 hK72 (by first | exact Nx_0 | omega | assumption) (by omega)
            have t74 := ti_0
            exact ⟨_, lp72 ((61 - ((0 : Int32)).toInt).toNat + 1) ((0 : Int32)) _ _ hI59 hK60 (by first | exact Nx_0 | omega | assumption) (Nat.lt_succ_self _)⟩
        · try simp only [Int32.lt_iff_toInt_lt, Int32.le_iff_toInt_le, ← Int32.toInt_inj, Int32.toInt_toInt64, tiA, tlA] at c37
          refine ⟨fun c41 => ?_, fun c41 => ?_⟩
          · try simp only [Int32.lt_iff_toInt_lt, Int32.le_iff_toInt_le, ← Int32.toInt_inj, Int32.toInt_toInt64, tiA, tlA] at c41
            unfold w_X9_tape_b47
            have hi75 : vp_in a1 6 := vp_of (by first | omega | ((try simp only [Int32.lt_iff_toInt_lt, Int32.le_iff_toInt_le, ← Int32.toInt_inj, Int32.toInt_toInt64, tiA, tlA]); omega) | (split <;> omega)) (by first | omega | ((try simp only [Int32.lt_iff_toInt_lt, Int32.le_iff_toInt_le, ← Int32.toInt_inj, Int32.toInt_toInt64, tiA, tlA]); omega) | (split <;> omega))
            refine ⟨hi75, ?_⟩
            have hz76 := vlt hi75
            intro it77 em78
            have hI79 : I9 lg0 it77 := by rw [em78]; exact i9_u hI (ok9_n rfl) (by decide) (fun q => absurd q (by decide))
            have hK80 : Kd (fun j => j = 518 ∨ j = 519 ∨ j = 520) (fun k => False) lg0 it0 lg0 it77 := by rw [em78]; exact kd_ur (by decide) (by first | decide | (dsimp only; decide) | omega | (dsimp only; omega)) hKr
            refine ⟨fun c60 => ?_, fun c60 => ?_⟩
            · try simp only [Int32.lt_iff_toInt_lt, Int32.le_iff_toInt_le, ← Int32.toInt_inj, Int32.toInt_toInt64, tiA, tlA] at c60
              have hi81 : vp_in a1 6 := vp_of (by first | omega | ((try simp only [Int32.lt_iff_toInt_lt, Int32.le_iff_toInt_le, ← Int32.toInt_inj, Int32.toInt_toInt64, tiA, tlA]); omega) | (split <;> omega)) (by first | omega | ((try simp only [Int32.lt_iff_toInt_lt, Int32.le_iff_toInt_le, ← Int32.toInt_inj, Int32.toInt_toInt64, tiA, tlA]); omega) | (split <;> omega))
              refine ⟨hi81, ?_⟩
              have hz82 := vlt hi81
              intro it83 em84
              have hI85 : I9 lg0 it83 := by rw [em84]; exact i9_u hI79 (ok9_b (a := 0) (b := 60) rfl (by first | decide | ((try simp only [Int32.lt_iff_toInt_lt, Int32.le_iff_toInt_le, ← Int32.toInt_inj, Int32.toInt_toInt64, tiA, tlA]); omega) | (split <;> (try simp only [Int32.lt_iff_toInt_lt, Int32.le_iff_toInt_le, ← Int32.toInt_inj, Int32.toInt_toInt64, tiA, tlA]) <;> omega))) (by decide) (fun q => absurd q (by decide))
              have hK86 : Kd (fun j => j = 518 ∨ j = 519 ∨ j = 520) (fun k => False) lg0 it0 lg0 it83 := by rw [em84]; exact kd_ur (by decide) (by first | decide | (dsimp only; decide) | omega | (dsimp only; omega)) hK80
              have lp72 : ∀ (n : Nat) (x4 : Int32) (lg : LGt) (it : ITt), I9 lg it → Kd (fun j => j = 518 ∨ j = 519 ∨ j = 520) (fun k => False) lg0 it0 lg it → ((0 ≤ (x4).toInt)) → (61 - (x4).toInt).toNat < n → w_X9_tape_b72 a1 a2 a3 Pz  n x4 lg it := by
                intro n72
                induction n72 with
                | zero => intro x4 lg it _ _ _ hn; exact absurd hn (Nat.not_lt_zero _)
                | succ n72 ih72 =>
                  intro x4 lg89 it90 hI87 hK88 hv hn
                  unfold w_X9_tape_b72
                  have hv72_0 := hv
                  refine ⟨fun c76 => ?_, fun c76 => ?_⟩
                  · try simp only [Int32.lt_iff_toInt_lt, Int32.le_iff_toInt_le, ← Int32.toInt_inj, Int32.toInt_toInt64, tiA, tlA] at c76
                    subst hp
                    exact ⟨⟨hI87, hK88⟩, by first | exact tp_n (by omega) | exact tp_b (by omega) (by omega) | exact tp_s (by omega) (by omega) (by omega) | exact tp_1 (by omega) (by omega) (by omega)⟩
                  · try simp only [Int32.lt_iff_toInt_lt, Int32.le_iff_toInt_le, ← Int32.toInt_inj, Int32.toInt_toInt64, tiA, tlA] at c76
                    try have f91 : ((60 * a1) : Int32).toInt = 60 * (a1).toInt := ml32 (a := 60) (b := (a1).toInt) (ti_60) (rfl) (by omega) (by omega)
                    try have f92 : (((60 * a1) + x4) : Int32).toInt = ((60 * a1)).toInt + (x4).toInt := ad32 (a := ((60 * a1)).toInt) (b := (x4).toInt) (rfl) (rfl) (by omega) (by omega)
                    have hi93 : vp_in ((60 * a1) + x4) 360 := vp_of (by first | omega | ((try simp only [Int32.lt_iff_toInt_lt, Int32.le_iff_toInt_le, ← Int32.toInt_inj, Int32.toInt_toInt64, tiA, tlA]); omega) | (split <;> omega)) (by first | omega | ((try simp only [Int32.lt_iff_toInt_lt, Int32.le_iff_toInt_le, ← Int32.toInt_inj, Int32.toInt_toInt64, tiA, tlA]); omega) | (split <;> omega))
                    refine ⟨hi93, ?_⟩
                    have hz94 := vlt hi93
                    intro lg95 em96
                    have hI97 : I9 lg95 it90 := by rw [em96]; exact i9_l hI87 (by decide) (by decide) (by decide)
                    have hK98 : Kd (fun j => j = 518 ∨ j = 519 ∨ j = 520) (fun k => False) lg0 it0 lg95 it90 := by rw [em96]; exact kd_lr (by decide) (by first | decide | (dsimp only; decide) | omega | (dsimp only; omega)) hK88
                    try have f99 : ((x4 + 1) : Int32).toInt = (x4).toInt + 1 := ad32 (a := (x4).toInt) (b := 1) (rfl) (ti_1) (by omega) (by omega)
                    exact ih72 ((x4 + 1)) _ _ hI97 hK98 (by first | exact Nx_0 | omega | assumption) (by omega)
              have t100 := ti_0
              exact ⟨_, lp72 ((61 - ((0 : Int32)).toInt).toNat + 1) ((0 : Int32)) _ _ hI85 hK86 (by first | exact Nx_0 | omega | assumption) (Nat.lt_succ_self _)⟩
            · try simp only [Int32.lt_iff_toInt_lt, Int32.le_iff_toInt_le, ← Int32.toInt_inj, Int32.toInt_toInt64, tiA, tlA] at c60
              have hi101 : vp_in a1 6 := vp_of (by first | omega | ((try simp only [Int32.lt_iff_toInt_lt, Int32.le_iff_toInt_le, ← Int32.toInt_inj, Int32.toInt_toInt64, tiA, tlA]); omega) | (split <;> omega)) (by first | omega | ((try simp only [Int32.lt_iff_toInt_lt, Int32.le_iff_toInt_le, ← Int32.toInt_inj, Int32.toInt_toInt64, tiA, tlA]); omega) | (split <;> omega))
              refine ⟨hi101, ?_⟩
              have hz102 := vlt hi101
              intro it103 em104
              have hI105 : I9 lg0 it103 := by rw [em104]; exact i9_u hI79 (ok9_b (a := 0) (b := 60) rfl (by first | decide | ((try simp only [Int32.lt_iff_toInt_lt, Int32.le_iff_toInt_le, ← Int32.toInt_inj, Int32.toInt_toInt64, tiA, tlA]); omega) | (split <;> (try simp only [Int32.lt_iff_toInt_lt, Int32.le_iff_toInt_le, ← Int32.toInt_inj, Int32.toInt_toInt64, tiA, tlA]) <;> omega))) (by decide) (fun q => absurd q (by decide))
              have hK106 : Kd (fun j => j = 518 ∨ j = 519 ∨ j = 520) (fun k => False) lg0 it0 lg0 it103 := by rw [em104]; exact kd_ur (by decide) (by first | decide | (dsimp only; decide) | omega | (dsimp only; omega)) hK80
              have lp72 : ∀ (n : Nat) (x4 : Int32) (lg : LGt) (it : ITt), I9 lg it → Kd (fun j => j = 518 ∨ j = 519 ∨ j = 520) (fun k => False) lg0 it0 lg it → ((0 ≤ (x4).toInt)) → (61 - (x4).toInt).toNat < n → w_X9_tape_b72 a1 a2 a3 Pz  n x4 lg it := by
                intro n72
                induction n72 with
                | zero => intro x4 lg it _ _ _ hn; exact absurd hn (Nat.not_lt_zero _)
                | succ n72 ih72 =>
                  intro x4 lg109 it110 hI107 hK108 hv hn
                  unfold w_X9_tape_b72
                  have hv72_0 := hv
                  refine ⟨fun c76 => ?_, fun c76 => ?_⟩
                  · try simp only [Int32.lt_iff_toInt_lt, Int32.le_iff_toInt_le, ← Int32.toInt_inj, Int32.toInt_toInt64, tiA, tlA] at c76
                    subst hp
                    exact ⟨⟨hI107, hK108⟩, by first | exact tp_n (by omega) | exact tp_b (by omega) (by omega) | exact tp_s (by omega) (by omega) (by omega) | exact tp_1 (by omega) (by omega) (by omega)⟩
                  · try simp only [Int32.lt_iff_toInt_lt, Int32.le_iff_toInt_le, ← Int32.toInt_inj, Int32.toInt_toInt64, tiA, tlA] at c76
                    try have f111 : ((60 * a1) : Int32).toInt = 60 * (a1).toInt := ml32 (a := 60) (b := (a1).toInt) (ti_60) (rfl) (by omega) (by omega)
                    try have f112 : (((60 * a1) + x4) : Int32).toInt = ((60 * a1)).toInt + (x4).toInt := ad32 (a := ((60 * a1)).toInt) (b := (x4).toInt) (rfl) (rfl) (by omega) (by omega)
                    have hi113 : vp_in ((60 * a1) + x4) 360 := vp_of (by first | omega | ((try simp only [Int32.lt_iff_toInt_lt, Int32.le_iff_toInt_le, ← Int32.toInt_inj, Int32.toInt_toInt64, tiA, tlA]); omega) | (split <;> omega)) (by first | omega | ((try simp only [Int32.lt_iff_toInt_lt, Int32.le_iff_toInt_le, ← Int32.toInt_inj, Int32.toInt_toInt64, tiA, tlA]); omega) | (split <;> omega))
                    refine ⟨hi113, ?_⟩
                    have hz114 := vlt hi113
                    intro lg115 em116
                    have hI117 : I9 lg115 it110 := by rw [em116]; exact i9_l hI107 (by decide) (by decide) (by decide)
                    have hK118 : Kd (fun j => j = 518 ∨ j = 519 ∨ j = 520) (fun k => False) lg0 it0 lg115 it110 := by rw [em116]; exact kd_lr (by decide) (by first | decide | (dsimp only; decide) | omega | (dsimp only; omega)) hK108
                    try have f119 : ((x4 + 1) : Int32).toInt = (x4).toInt + 1 := ad32 (a := (x4).toInt) (b := 1) (rfl) (ti_1) (by omega) (by omega)
                    exact ih72 ((x4 + 1)) _ _ hI117 hK118 (by first | exact Nx_0 | omega | assumption) (by omega)
              have t120 := ti_0
              exact ⟨_, lp72 ((61 - ((0 : Int32)).toInt).toNat + 1) ((0 : Int32)) _ _ hI105 hK106 (by first | exact Nx_0 | omega | assumption) (Nat.lt_succ_self _)⟩
          · try simp only [Int32.lt_iff_toInt_lt, Int32.le_iff_toInt_le, ← Int32.toInt_inj, Int32.toInt_toInt64, tiA, tlA] at c41
            subst hp
            exact ⟨⟨hI, hKr⟩, by first | exact tp_n (by omega) | exact tp_b (by omega) (by omega) | exact tp_s (by omega) (by omega) (by omega) | exact tp_1 (by omega) (by omega) (by omega)⟩
      · try simp only [Int32.lt_iff_toInt_lt, Int32.le_iff_toInt_le, ← Int32.toInt_inj, Int32.toInt_toInt64, tiA, tlA] at c24
        refine ⟨fun c30 => ?_, fun c30 => ?_⟩
        · try simp only [Int32.lt_iff_toInt_lt, Int32.le_iff_toInt_le, ← Int32.toInt_inj, Int32.toInt_toInt64, tiA, tlA] at c30
          unfold w_X9_tape_b36
          refine ⟨fun c37 => ?_, fun c37 => ?_⟩
          · try simp only [Int32.lt_iff_toInt_lt, Int32.le_iff_toInt_le, ← Int32.toInt_inj, Int32.toInt_toInt64, tiA, tlA] at c37
            unfold w_X9_tape_b47
            have hi121 : vp_in a1 6 := vp_of (by first | omega | ((try simp only [Int32.lt_iff_toInt_lt, Int32.le_iff_toInt_le, ← Int32.toInt_inj, Int32.toInt_toInt64, tiA, tlA]); omega) | (split <;> omega)) (by first | omega | ((try simp only [Int32.lt_iff_toInt_lt, Int32.le_iff_toInt_le, ← Int32.toInt_inj, Int32.toInt_toInt64, tiA, tlA]); omega) | (split <;> omega))
            refine ⟨hi121, ?_⟩
            have hz122 := vlt hi121
            intro it123 em124
            have hI125 : I9 lg0 it123 := by rw [em124]; exact i9_u hI (ok9_n rfl) (by decide) (fun q => absurd q (by decide))
            have hK126 : Kd (fun j => j = 518 ∨ j = 519 ∨ j = 520) (fun k => False) lg0 it0 lg0 it123 := by rw [em124]; exact kd_ur (by decide) (by first | decide | (dsimp only; decide) | omega | (dsimp only; omega)) hKr
            refine ⟨fun c60 => ?_, fun c60 => ?_⟩
            · try simp only [Int32.lt_iff_toInt_lt, Int32.le_iff_toInt_le, ← Int32.toInt_inj, Int32.toInt_toInt64, tiA, tlA] at c60
              have hi127 : vp_in a1 6 := vp_of (by first | omega | ((try simp only [Int32.lt_iff_toInt_lt, Int32.le_iff_toInt_le, ← Int32.toInt_inj, Int32.toInt_toInt64, tiA, tlA]); omega) | (split <;> omega)) (by first | omega | ((try simp only [Int32.lt_iff_toInt_lt, Int32.le_iff_toInt_le, ← Int32.toInt_inj, Int32.toInt_toInt64, tiA, tlA]); omega) | (split <;> omega))
              refine ⟨hi127, ?_⟩
              have hz128 := vlt hi127
              intro it129 em130
              have hI131 : I9 lg0 it129 := by rw [em130]; exact i9_u hI125 (ok9_b (a := 0) (b := 60) rfl (by first | decide | ((try simp only [Int32.lt_iff_toInt_lt, Int32.le_iff_toInt_le, ← Int32.toInt_inj, Int32.toInt_toInt64, tiA, tlA]); omega) | (split <;> (try simp only [Int32.lt_iff_toInt_lt, Int32.le_iff_toInt_le, ← Int32.toInt_inj, Int32.toInt_toInt64, tiA, tlA]) <;> omega))) (by decide) (fun q => absurd q (by decide))
              have hK132 : Kd (fun j => j = 518 ∨ j = 519 ∨ j = 520) (fun k => False) lg0 it0 lg0 it129 := by rw [em130]; exact kd_ur (by decide) (by first | decide | (dsimp only; decide) | omega | (dsimp only; omega)) hK126
              have lp72 : ∀ (n : Nat) (x4 : Int32) (lg : LGt) (it : ITt), I9 lg it → Kd (fun j => j = 518 ∨ j = 519 ∨ j = 520) (fun k => False) lg0 it0 lg it → ((0 ≤ (x4).toInt)) → (61 - (x4).toInt).toNat < n → w_X9_tape_b72 a1 a2 a3 Pz  n x4 lg it := by
                intro n72
                induction n72 with
                | zero => intro x4 lg it _ _ _ hn; exact absurd hn (Nat.not_lt_zero _)
                | succ n72 ih72 =>
                  intro x4 lg135 it136 hI133 hK134 hv hn
                  unfold w_X9_tape_b72
                  have hv72_0 := hv
                  refine ⟨fun c76 => ?_, fun c76 => ?_⟩
                  · try simp only [Int32.lt_iff_toInt_lt, Int32.le_iff_toInt_le, ← Int32.toInt_inj, Int32.toInt_toInt64, tiA, tlA] at c76
                    subst hp
                    exact ⟨⟨hI133, hK134⟩, by first | exact tp_n (by omega) | exact tp_b (by omega) (by omega) | exact tp_s (by omega) (by omega) (by omega) | exact tp_1 (by omega) (by omega) (by omega)⟩
                  · try simp only [Int32.lt_iff_toInt_lt, Int32.le_iff_toInt_le, ← Int32.toInt_inj, Int32.toInt_toInt64, tiA, tlA] at c76
                    try have f137 : ((60 * a1) : Int32).toInt = 60 * (a1).toInt := ml32 (a := 60) (b := (a1).toInt) (ti_60) (rfl) (by omega) (by omega)
                    try have f138 : (((60 * a1) + x4) : Int32).toInt = ((60 * a1)).toInt + (x4).toInt := ad32 (a := ((60 * a1)).toInt) (b := (x4).toInt) (rfl) (rfl) (by omega) (by omega)
                    have hi139 : vp_in ((60 * a1) + x4) 360 := vp_of (by first | omega | ((try simp only [Int32.lt_iff_toInt_lt, Int32.le_iff_toInt_le, ← Int32.toInt_inj, Int32.toInt_toInt64, tiA, tlA]); omega) | (split <;> omega)) (by first | omega | ((try simp only [Int32.lt_iff_toInt_lt, Int32.le_iff_toInt_le, ← Int32.toInt_inj, Int32.toInt_toInt64, tiA, tlA]); omega) | (split <;> omega))
                    refine ⟨hi139, ?_⟩
                    have hz140 := vlt hi139
                    intro lg141 em142
                    have hI143 : I9 lg141 it136 := by rw [em142]; exact i9_l hI133 (by decide) (by decide) (by decide)
                    have hK144 : Kd (fun j => j = 518 ∨ j = 519 ∨ j = 520) (fun k => False) lg0 it0 lg141 it136 := by rw [em142]; exact kd_lr (by decide) (by first | decide | (dsimp only; decide) | omega | (dsimp only; omega)) hK134
                    try have f145 : ((x4 + 1) : Int32).toInt = (x4).toInt + 1 := ad32 (a := (x4).toInt) (b := 1) (rfl) (ti_1) (by omega) (by omega)
                    exact ih72 ((x4 + 1)) _ _ hI143 hK144 (by first | exact Nx_0 | omega | assumption) (by omega)
              have t146 := ti_0
              exact ⟨_, lp72 ((61 - ((0 : Int32)).toInt).toNat + 1) ((0 : Int32)) _ _ hI131 hK132 (by first | exact Nx_0 | omega | assumption) (Nat.lt_succ_self _)⟩
            · try simp only [Int32.lt_iff_toInt_lt, Int32.le_iff_toInt_le, ← Int32.toInt_inj, Int32.toInt_toInt64, tiA, tlA] at c60
              have hi147 : vp_in a1 6 := vp_of (by first | omega | ((try simp only [Int32.lt_iff_toInt_lt, Int32.le_iff_toInt_le, ← Int32.toInt_inj, Int32.toInt_toInt64, tiA, tlA]); omega) | (split <;> omega)) (by first | omega | ((try simp only [Int32.lt_iff_toInt_lt, Int32.le_iff_toInt_le, ← Int32.toInt_inj, Int32.toInt_toInt64, tiA, tlA]); omega) | (split <;> omega))
              refine ⟨hi147, ?_⟩
              have hz148 := vlt hi147
              intro it149 em150
              have hI151 : I9 lg0 it149 := by rw [em150]; exact i9_u hI125 (ok9_b (a := 0) (b := 60) rfl (by first | decide | ((try simp only [Int32.lt_iff_toInt_lt, Int32.le_iff_toInt_le, ← Int32.toInt_inj, Int32.toInt_toInt64, tiA, tlA]); omega) | (split <;> (try simp only [Int32.lt_iff_toInt_lt, Int32.le_iff_toInt_le, ← Int32.toInt_inj, Int32.toInt_toInt64, tiA, tlA]) <;> omega))) (by decide) (fun q => absurd q (by decide))
              have hK152 : Kd (fun j => j = 518 ∨ j = 519 ∨ j = 520) (fun k => False) lg0 it0 lg0 it149 := by rw [em150]; exact kd_ur (by decide) (by first | decide | (dsimp only; decide) | omega | (dsimp only; omega)) hK126
              have lp72 : ∀ (n : Nat) (x4 : Int32) (lg : LGt) (it : ITt), I9 lg it → Kd (fun j => j = 518 ∨ j = 519 ∨ j = 520) (fun k => False) lg0 it0 lg it → ((0 ≤ (x4).toInt)) → (61 - (x4).toInt).toNat < n → w_X9_tape_b72 a1 a2 a3 Pz  n x4 lg it := by
                intro n72
                induction n72 with
                | zero => intro x4 lg it _ _ _ hn; exact absurd hn (Nat.not_lt_zero _)
                | succ n72 ih72 =>
                  intro x4 lg155 it156 hI153 hK154 hv hn
                  unfold w_X9_tape_b72
                  have hv72_0 := hv
                  refine ⟨fun c76 => ?_, fun c76 => ?_⟩
                  · try simp only [Int32.lt_iff_toInt_lt, Int32.le_iff_toInt_le, ← Int32.toInt_inj, Int32.toInt_toInt64, tiA, tlA] at c76
                    subst hp
                    exact ⟨⟨hI153, hK154⟩, by first | exact tp_n (by omega) | exact tp_b (by omega) (by omega) | exact tp_s (by omega) (by omega) (by omega) | exact tp_1 (by omega) (by omega) (by omega)⟩
                  · try simp only [Int32.lt_iff_toInt_lt, Int32.le_iff_toInt_le, ← Int32.toInt_inj, Int32.toInt_toInt64, tiA, tlA] at c76
                    try have f157 : ((60 * a1) : Int32).toInt = 60 * (a1).toInt := ml32 (a := 60) (b := (a1).toInt) (ti_60) (rfl) (by omega) (by omega)
                    try have f158 : (((60 * a1) + x4) : Int32).toInt = ((60 * a1)).toInt + (x4).toInt := ad32 (a := ((60 * a1)).toInt) (b := (x4).toInt) (rfl) (rfl) (by omega) (by omega)
                    have hi159 : vp_in ((60 * a1) + x4) 360 := vp_of (by first | omega | ((try simp only [Int32.lt_iff_toInt_lt, Int32.le_iff_toInt_le, ← Int32.toInt_inj, Int32.toInt_toInt64, tiA, tlA]); omega) | (split <;> omega)) (by first | omega | ((try simp only [Int32.lt_iff_toInt_lt, Int32.le_iff_toInt_le, ← Int32.toInt_inj, Int32.toInt_toInt64, tiA, tlA]); omega) | (split <;> omega))
                    refine ⟨hi159, ?_⟩
                    have hz160 := vlt hi159
                    intro lg161 em162
                    have hI163 : I9 lg161 it156 := by rw [em162]; exact i9_l hI153 (by decide) (by decide) (by decide)
                    have hK164 : Kd (fun j => j = 518 ∨ j = 519 ∨ j = 520) (fun k => False) lg0 it0 lg161 it156 := by rw [em162]; exact kd_lr (by decide) (by first | decide | (dsimp only; decide) | omega | (dsimp only; omega)) hK154
                    try have f165 : ((x4 + 1) : Int32).toInt = (x4).toInt + 1 := ad32 (a := (x4).toInt) (b := 1) (rfl) (ti_1) (by omega) (by omega)
                    exact ih72 ((x4 + 1)) _ _ hI163 hK164 (by first | exact Nx_0 | omega | assumption) (by omega)
              have t166 := ti_0
              exact ⟨_, lp72 ((61 - ((0 : Int32)).toInt).toNat + 1) ((0 : Int32)) _ _ hI151 hK152 (by first | exact Nx_0 | omega | assumption) (Nat.lt_succ_self _)⟩
          · try simp only [Int32.lt_iff_toInt_lt, Int32.le_iff_toInt_le, ← Int32.toInt_inj, Int32.toInt_toInt64, tiA, tlA] at c37
            refine ⟨fun c41 => ?_, fun c41 => ?_⟩
            · try simp only [Int32.lt_iff_toInt_lt, Int32.le_iff_toInt_le, ← Int32.toInt_inj, Int32.toInt_toInt64, tiA, tlA] at c41
              unfold w_X9_tape_b47
              have hi167 : vp_in a1 6 := vp_of (by first | omega | ((try simp only [Int32.lt_iff_toInt_lt, Int32.le_iff_toInt_le, ← Int32.toInt_inj, Int32.toInt_toInt64, tiA, tlA]); omega) | (split <;> omega)) (by first | omega | ((try simp only [Int32.lt_iff_toInt_lt, Int32.le_iff_toInt_le, ← Int32.toInt_inj, Int32.toInt_toInt64, tiA, tlA]); omega) | (split <;> omega))
              refine ⟨hi167, ?_⟩
              have hz168 := vlt hi167
              intro it169 em170
              have hI171 : I9 lg0 it169 := by rw [em170]; exact i9_u hI (ok9_n rfl) (by decide) (fun q => absurd q (by decide))
              have hK172 : Kd (fun j => j = 518 ∨ j = 519 ∨ j = 520) (fun k => False) lg0 it0 lg0 it169 := by rw [em170]; exact kd_ur (by decide) (by first | decide | (dsimp only; decide) | omega | (dsimp only; omega)) hKr
              refine ⟨fun c60 => ?_, fun c60 => ?_⟩
              · try simp only [Int32.lt_iff_toInt_lt, Int32.le_iff_toInt_le, ← Int32.toInt_inj, Int32.toInt_toInt64, tiA, tlA] at c60
                have hi173 : vp_in a1 6 := vp_of (by first | omega | ((try simp only [Int32.lt_iff_toInt_lt, Int32.le_iff_toInt_le, ← Int32.toInt_inj, Int32.toInt_toInt64, tiA, tlA]); omega) | (split <;> omega)) (by first | omega | ((try simp only [Int32.lt_iff_toInt_lt, Int32.le_iff_toInt_le, ← Int32.toInt_inj, Int32.toInt_toInt64, tiA, tlA]); omega) | (split <;> omega))
                refine ⟨hi173, ?_⟩
                have hz174 := vlt hi173
                intro it175 em176
                have hI177 : I9 lg0 it175 := by rw [em176]; exact i9_u hI171 (ok9_b (a := 0) (b := 60) rfl (by first | decide | ((try simp only [Int32.lt_iff_toInt_lt, Int32.le_iff_toInt_le, ← Int32.toInt_inj, Int32.toInt_toInt64, tiA, tlA]); omega) | (split <;> (try simp only [Int32.lt_iff_toInt_lt, Int32.le_iff_toInt_le, ← Int32.toInt_inj, Int32.toInt_toInt64, tiA, tlA]) <;> omega))) (by decide) (fun q => absurd q (by decide))
                have hK178 : Kd (fun j => j = 518 ∨ j = 519 ∨ j = 520) (fun k => False) lg0 it0 lg0 it175 := by rw [em176]; exact kd_ur (by decide) (by first | decide | (dsimp only; decide) | omega | (dsimp only; omega)) hK172
                have lp72 : ∀ (n : Nat) (x4 : Int32) (lg : LGt) (it : ITt), I9 lg it → Kd (fun j => j = 518 ∨ j = 519 ∨ j = 520) (fun k => False) lg0 it0 lg it → ((0 ≤ (x4).toInt)) → (61 - (x4).toInt).toNat < n → w_X9_tape_b72 a1 a2 a3 Pz  n x4 lg it := by
                  intro n72
                  induction n72 with
                  | zero => intro x4 lg it _ _ _ hn; exact absurd hn (Nat.not_lt_zero _)
                  | succ n72 ih72 =>
                    intro x4 lg181 it182 hI179 hK180 hv hn
                    unfold w_X9_tape_b72
                    have hv72_0 := hv
                    refine ⟨fun c76 => ?_, fun c76 => ?_⟩
                    · try simp only [Int32.lt_iff_toInt_lt, Int32.le_iff_toInt_le, ← Int32.toInt_inj, Int32.toInt_toInt64, tiA, tlA] at c76
                      subst hp
                      exact ⟨⟨hI179, hK180⟩, by first | exact tp_n (by omega) | exact tp_b (by omega) (by omega) | exact tp_s (by omega) (by omega) (by omega) | exact tp_1 (by omega) (by omega) (by omega)⟩
                    · try simp only [Int32.lt_iff_toInt_lt, Int32.le_iff_toInt_le, ← Int32.toInt_inj, Int32.toInt_toInt64, tiA, tlA] at c76
                      try have f183 : ((60 * a1) : Int32).toInt = 60 * (a1).toInt := ml32 (a := 60) (b := (a1).toInt) (ti_60) (rfl) (by omega) (by omega)
                      try have f184 : (((60 * a1) + x4) : Int32).toInt = ((60 * a1)).toInt + (x4).toInt := ad32 (a := ((60 * a1)).toInt) (b := (x4).toInt) (rfl) (rfl) (by omega) (by omega)
                      have hi185 : vp_in ((60 * a1) + x4) 360 := vp_of (by first | omega | ((try simp only [Int32.lt_iff_toInt_lt, Int32.le_iff_toInt_le, ← Int32.toInt_inj, Int32.toInt_toInt64, tiA, tlA]); omega) | (split <;> omega)) (by first | omega | ((try simp only [Int32.lt_iff_toInt_lt, Int32.le_iff_toInt_le, ← Int32.toInt_inj, Int32.toInt_toInt64, tiA, tlA]); omega) | (split <;> omega))
                      refine ⟨hi185, ?_⟩
                      have hz186 := vlt hi185
                      intro lg187 em188
                      have hI189 : I9 lg187 it182 := by rw [em188]; exact i9_l hI179 (by decide) (by decide) (by decide)
                      have hK190 : Kd (fun j => j = 518 ∨ j = 519 ∨ j = 520) (fun k => False) lg0 it0 lg187 it182 := by rw [em188]; exact kd_lr (by decide) (by first | decide | (dsimp only; decide) | omega | (dsimp only; omega)) hK180
                      try have f191 : ((x4 + 1) : Int32).toInt = (x4).toInt + 1 := ad32 (a := (x4).toInt) (b := 1) (rfl) (ti_1) (by omega) (by omega)
                      exact ih72 ((x4 + 1)) _ _ hI189 hK190 (by first | exact Nx_0 | omega | assumption) (by omega)
                have t192 := ti_0
                exact ⟨_, lp72 ((61 - ((0 : Int32)).toInt).toNat + 1) ((0 : Int32)) _ _ hI177 hK178 (by first | exact Nx_0 | omega | assumption) (Nat.lt_succ_self _)⟩
              · try simp only [Int32.lt_iff_toInt_lt, Int32.le_iff_toInt_le, ← Int32.toInt_inj, Int32.toInt_toInt64, tiA, tlA] at c60
                have hi193 : vp_in a1 6 := vp_of (by first | omega | ((try simp only [Int32.lt_iff_toInt_lt, Int32.le_iff_toInt_le, ← Int32.toInt_inj, Int32.toInt_toInt64, tiA, tlA]); omega) | (split <;> omega)) (by first | omega | ((try simp only [Int32.lt_iff_toInt_lt, Int32.le_iff_toInt_le, ← Int32.toInt_inj, Int32.toInt_toInt64, tiA, tlA]); omega) | (split <;> omega))
                refine ⟨hi193, ?_⟩
                have hz194 := vlt hi193
                intro it195 em196
                have hI197 : I9 lg0 it195 := by rw [em196]; exact i9_u hI171 (ok9_b (a := 0) (b := 60) rfl (by first | decide | ((try simp only [Int32.lt_iff_toInt_lt, Int32.le_iff_toInt_le, ← Int32.toInt_inj, Int32.toInt_toInt64, tiA, tlA]); omega) | (split <;> (try simp only [Int32.lt_iff_toInt_lt, Int32.le_iff_toInt_le, ← Int32.toInt_inj, Int32.toInt_toInt64, tiA, tlA]) <;> omega))) (by decide) (fun q => absurd q (by decide))
                have hK198 : Kd (fun j => j = 518 ∨ j = 519 ∨ j = 520) (fun k => False) lg0 it0 lg0 it195 := by rw [em196]; exact kd_ur (by decide) (by first | decide | (dsimp only; decide) | omega | (dsimp only; omega)) hK172
                have lp72 : ∀ (n : Nat) (x4 : Int32) (lg : LGt) (it : ITt), I9 lg it → Kd (fun j => j = 518 ∨ j = 519 ∨ j = 520) (fun k => False) lg0 it0 lg it → ((0 ≤ (x4).toInt)) → (61 - (x4).toInt).toNat < n → w_X9_tape_b72 a1 a2 a3 Pz  n x4 lg it := by
                  intro n72
                  induction n72 with
                  | zero => intro x4 lg it _ _ _ hn; exact absurd hn (Nat.not_lt_zero _)
                  | succ n72 ih72 =>
                    intro x4 lg201 it202 hI199 hK200 hv hn
                    unfold w_X9_tape_b72
                    have hv72_0 := hv
                    refine ⟨fun c76 => ?_, fun c76 => ?_⟩
                    · try simp only [Int32.lt_iff_toInt_lt, Int32.le_iff_toInt_le, ← Int32.toInt_inj, Int32.toInt_toInt64, tiA, tlA] at c76
                      subst hp
                      exact ⟨⟨hI199, hK200⟩, by first | exact tp_n (by omega) | exact tp_b (by omega) (by omega) | exact tp_s (by omega) (by omega) (by omega) | exact tp_1 (by omega) (by omega) (by omega)⟩
                    · try simp only [Int32.lt_iff_toInt_lt, Int32.le_iff_toInt_le, ← Int32.toInt_inj, Int32.toInt_toInt64, tiA, tlA] at c76
                      try have f203 : ((60 * a1) : Int32).toInt = 60 * (a1).toInt := ml32 (a := 60) (b := (a1).toInt) (ti_60) (rfl) (by omega) (by omega)
                      try have f204 : (((60 * a1) + x4) : Int32).toInt = ((60 * a1)).toInt + (x4).toInt := ad32 (a := ((60 * a1)).toInt) (b := (x4).toInt) (rfl) (rfl) (by omega) (by omega)
                      have hi205 : vp_in ((60 * a1) + x4) 360 := vp_of (by first | omega | ((try simp only [Int32.lt_iff_toInt_lt, Int32.le_iff_toInt_le, ← Int32.toInt_inj, Int32.toInt_toInt64, tiA, tlA]); omega) | (split <;> omega)) (by first | omega | ((try simp only [Int32.lt_iff_toInt_lt, Int32.le_iff_toInt_le, ← Int32.toInt_inj, Int32.toInt_toInt64, tiA, tlA]); omega) | (split <;> omega))
                      refine ⟨hi205, ?_⟩
                      have hz206 := vlt hi205
                      intro lg207 em208
                      have hI209 : I9 lg207 it202 := by rw [em208]; exact i9_l hI199 (by decide) (by decide) (by decide)
                      have hK210 : Kd (fun j => j = 518 ∨ j = 519 ∨ j = 520) (fun k => False) lg0 it0 lg207 it202 := by rw [em208]; exact kd_lr (by decide) (by first | decide | (dsimp only; decide) | omega | (dsimp only; omega)) hK200
                      try have f211 : ((x4 + 1) : Int32).toInt = (x4).toInt + 1 := ad32 (a := (x4).toInt) (b := 1) (rfl) (ti_1) (by omega) (by omega)
                      exact ih72 ((x4 + 1)) _ _ hI209 hK210 (by first | exact Nx_0 | omega | assumption) (by omega)
                have t212 := ti_0
                exact ⟨_, lp72 ((61 - ((0 : Int32)).toInt).toNat + 1) ((0 : Int32)) _ _ hI197 hK198 (by first | exact Nx_0 | omega | assumption) (Nat.lt_succ_self _)⟩
            · try simp only [Int32.lt_iff_toInt_lt, Int32.le_iff_toInt_le, ← Int32.toInt_inj, Int32.toInt_toInt64, tiA, tlA] at c41
              subst hp
              exact ⟨⟨hI, hKr⟩, by first | exact tp_n (by omega) | exact tp_b (by omega) (by omega) | exact tp_s (by omega) (by omega) (by omega) | exact tp_1 (by omega) (by omega) (by omega)⟩
        · try simp only [Int32.lt_iff_toInt_lt, Int32.le_iff_toInt_le, ← Int32.toInt_inj, Int32.toInt_toInt64, tiA, tlA] at c30
          subst hp
          exact ⟨⟨hI, hKr⟩, by first | exact tp_n (by omega) | exact tp_b (by omega) (by omega) | exact tp_s (by omega) (by omega) (by omega) | exact tp_1 (by omega) (by omega) (by omega)⟩
  · try simp only [Int32.lt_iff_toInt_lt, Int32.le_iff_toInt_le, ← Int32.toInt_inj, Int32.toInt_toInt64, tiA, tlA] at c4
    subst hp
    exact ⟨⟨hI, hKr⟩, by first | exact tp_n (by omega) | exact tp_b (by omega) (by omega) | exact tp_s (by omega) (by omega) (by omega) | exact tp_1 (by omega) (by omega) (by omega)⟩
