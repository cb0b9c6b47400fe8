/-! what tape, item and shift do to the tapes, on both sides -/
theorem rc_520 {S : Nat → Prop} {lg lg1 : LGt} {it it1 : ITt} {t k : Nat} (k8 : Kc S lg it lg1 it1) (s8 : ∀ j, S j → j < 489) : f9 lg1 t k = f9 lg t k := by
  unfold f9
  rw [(k8 520 (fun z => by have := s8 _ z; omega)).1]
theorem rc_474 {S F : Nat → Prop} {lg lg1 : LGt} {it it1 : ITt} {t k : Nat} (ht : t < 6) (k9 : Kd S F lg it lg1 it1) (s9 : ∀ j, S j → 489 ≤ j) : f8 lg1 t k = f8 lg t k := by
  unfold f8
  rw [(k9.1 (474 + 2 * t + 1) (by omega) (fun z => by have := s9 _ z; omega)).1]
theorem rc_tape {S S' F : Nat → Prop} {lg lg1 lg2 : LGt} {it it1 it2 : ITt} {v v' a b c : Int32} (h : RC lg it) (e8 : v = tapeA a b c) (t8 : TS v a b c (fun t => it (474 + 2 * t) 0) (fun t => it (474 + 2 * t) 1) (fun t => it1 (474 + 2 * t) 0) (fun t => it1 (474 + 2 * t) 1)) (c8 : TC v a (f8 lg) (f8 lg1)) (k8 : Kc S lg it lg1 it1) (s8 : ∀ j, S j → j < 489)
    (e9 : v' = tapeA a b c) (t9 : TS v' a b c (it1 518) (it1 519) (it2 518) (it2 519)) (c9 : TC v' a (f9 lg1) (f9 lg2)) (k9 : Kd S' F lg1 it1 lg2 it2) (s9 : ∀ j, S' j → 489 ≤ j) : RC lg2 it2 := by
  have ev : v' = v := e9.trans e8.symm
  refine ⟨rt_tape h.1 e8 t8 k8 s8 e9 t9 k9 s9, fun t ht => ?_, fun t k ht hk => ?_⟩
  · obtain ⟨q1, _⟩ := t9 t ht
    have n8 : it1 518 = it 518 := (k8 518 (fun z => by have := s8 _ z; omega)).2
    rw [q1]
    split
    · rename_i z
      have e := e9.symm.trans z.2
      unfold tapeA at e
      split at e
      · exact absurd e (by decide)
      · split at e
        · exact absurd e (by decide)
        · omega
    · rw [n8]; exact h.2.1 t ht
  · have z := h.2.2 t k ht hk
    rw [rc_474 ht k9 s9, c8 t k ht hk, c9 t k ht hk, rc_520 k8 s8, ev, z]
theorem rc_item {S S' F : Nat → Prop} {lg lg1 lg2 : LGt} {it it1 it2 : ITt} {v v' a b : Int32} {x : Int64} (h : RC lg it) (k8 : Ki S lg it lg1 it1) (s8 : ∀ j, S j → j < 489) (e8 : v = itemA a b (it (474 + 2 * a.toNatClampNeg) 0) (it (474 + 2 * a.toNatClampNeg) 1)) (i8 : IC v a b (cutA (it (474 + 2 * a.toNatClampNeg) 0) x) (f8 lg) (f8 lg1))
    (k9 : Kd S' F lg1 it1 lg2 it2) (s9 : ∀ j, S' j → 520 ≤ j) (e9 : v' = itemA a b (it1 518 a.toNatClampNeg) (it1 519 a.toNatClampNeg)) (i9 : IC v' a b (cutA (it1 518 a.toNatClampNeg) x) (f9 lg1) (f9 lg2)) : RC lg2 it2 ∧ v = v' := by
  have ev : v = v' := item_x h.1 k8.2 e8 e9
  refine ⟨⟨rt_9 (rt_e h.1 k8.2) k9 (fun j hj => by have := s9 j hj; omega), fun t ht => ?_, fun t k ht hk => ?_⟩, ev⟩
  · rw [(k9.1 518 (by decide) (fun z => by have := s9 _ z; omega)).2, k8.2 518]; exact h.2.1 t ht
  · have z := h.2.2 t k ht hk
    rw [rc_474 ht k9 (fun j hj => by have := s9 j hj; omega), i8 t k ht hk, i9 t k ht hk, rc_520 k8.1 s8, ← ev, z]
    by_cases q : t = a.toNatClampNeg ∧ k = b.toNatClampNeg ∧ v = 1
    · rw [if_pos q, if_pos q, k8.2 518, (h.1 a.toNatClampNeg (by rw [← q.1]; exact ht)).1]
    · rw [if_neg q, if_neg q]
theorem rc_shift {S S' F : Nat → Prop} {lg lg1 lg2 : LGt} {it it1 it2 : ITt} {v v' a b c d n : Int32} (h : RC lg it) (hz : ∀ t, t < 6 → (it 519 t).toInt ≤ 60) (k8 : Ki S lg it lg1 it1) (s8 : ∀ j, S j → j < 489) (e8 : v = shiftA a b c d n (it (474 + 2 * a.toNatClampNeg) 0) (it (474 + 2 * a.toNatClampNeg) 1) (it (474 + 2 * c.toNatClampNeg) 0) (it (474 + 2 * c.toNatClampNeg) 1)) (i8 : SC_ v a b c d n (f8 lg) (f8 lg1))
    (k9 : Kd S' F lg1 it1 lg2 it2) (s9 : ∀ j, S' j → 520 ≤ j) (e9 : v' = shiftA a b c d n (it1 518 a.toNatClampNeg) (it1 519 a.toNatClampNeg) (it1 518 c.toNatClampNeg) (it1 519 c.toNatClampNeg)) (i9 : SC_ v' a b c d n (f9 lg1) (f9 lg2)) : RC lg2 it2 ∧ v = v' := by
  have ev : v = v' := shift_x h.1 k8.2 e8 e9
  refine ⟨⟨rt_9 (rt_e h.1 k8.2) k9 (fun j hj => by have := s9 j hj; omega), fun t ht => ?_, fun t k ht hk => ?_⟩, ev⟩
  · rw [(k9.1 518 (by decide) (fun z => by have := s9 _ z; omega)).2, k8.2 518]; exact h.2.1 t ht
  · have z := h.2.2 t k ht hk
    rw [rc_474 ht k9 (fun j hj => by have := s9 j hj; omega), i8 t k ht hk, i9 t k ht hk, ← ev]
    by_cases q : t = c.toNatClampNeg ∧ d.toInt ≤ (k : Int) ∧ (k : Int) < d.toInt + n.toInt ∧ 0 ≤ v.toInt
    · rw [if_pos q, if_pos q]
      have q4 := q.2.2.2
      have g : (0 ≤ a.toInt ∧ a.toInt ≤ 5) ∧ 0 ≤ b.toInt ∧ 0 ≤ d.toInt ∧ n.toInt ≤ (it (474 + 2 * a.toNatClampNeg) 1).toInt - b.toInt := by
        rw [e8] at q4
        unfold shiftA at q4
        split at q4
        · exact absurd q4 (by decide)
        · split at q4
          · exact absurd q4 (by decide)
          · split at q4
            · exact absurd q4 (by decide)
            · split at q4
              · exact absurd q4 (by decide)
              · omega
      obtain ⟨g1, g2, g3, g4⟩ := g
      rw [(h.1 _ (rt_n g1)).2.1] at g4
      have z6 := hz _ (rt_n g1)
      have nb := cl32 g2
      have nd := cl32 g3
      rw [rc_520 k8.1 s8]
      exact h.2.2 _ _ (rt_n g1) (by omega)
    · rw [if_neg q, if_neg q, rc_520 k8.1 s8]; exact z
