/-! see, event, book, undo: the lists on both sides; count -/
theorem p9_8 {S : Nat → Prop} {lg lg' : LGt} {it it' : ITt} {f r : Nat} (hk : Kc S lg it lg' it') (hs : ∀ j, S j → j < 489) (hr : 489 < r) : p9 it' f r = p9 it f r := by
  unfold p9
  rw [(hk 489 (fun q => by have := hs _ q; omega)).2, (hk r (fun q => by have := hs _ q; omega)).2, (hk (r + 1) (fun q => by have := hs _ q; omega)).2]
theorem rp_see {S S' F : Nat → Prop} {lg lg1 lg2 : LGt} {it it1 it2 : ITt} {v v' a b : Int32} (h : RP lg it) (hI : I8 lg it) (k8 : Kc S lg it lg1 it1) (s8 : ∀ j, S j → 19 ≤ j ∧ j < 22) (q8 : v = (stP (p8 it 19) 5 a b).1 ∧ p8 it1 19 = (stP (p8 it 19) 5 a b).2) (k9 : Kd S' F lg1 it1 lg2 it2) (q9 : v' = (stP (p9 it1 9 495) 5 a b).1 ∧ p9 it2 9 495 = (stP (p9 it1 9 495) 5 a b).2) (s9 : ∀ j, S' j → j = 495 ∨ j = 496) (f9 : ∀ k, F k → k = 9) : RP lg2 it2 ∧ v = v' := by
  rw [p9_8 k8 (fun j hj => by have := s8 j hj; omega) (by decide)] at q9
  have b19 := i8_2 hI oq_19
  rw [c8L 19 (by decide), if_pos rfl] at b19
  obtain ⟨e, q⟩ := pq_st (a := a) (b := b) h.1 (cap := 5) b19.2 (by decide)
  rw [← q8.2, ← q9.2] at q
  exact ⟨rp_l (Or.inl ⟨rfl, rfl, rfl⟩) h k8 (fun j hj => s8 j hj) k9 s9 f9 q, by rw [q8.1, q9.1]; exact e⟩
theorem rp_book {S S' F : Nat → Prop} {lg lg1 lg2 : LGt} {it it1 it2 : ITt} {v v' a b : Int32} (h : RP lg it) (k8 : Kc S lg it lg1 it1) (s8 : ∀ j, S j → 25 ≤ j ∧ j < 28) (q8 : v = (stP (p8 it 25) 8 a b).1 ∧ p8 it1 25 = (stP (p8 it 25) 8 a b).2) (k9 : Kd S' F lg1 it1 lg2 it2) (q9 : v' = (stP (p9 it1 11 499) 8 a b).1 ∧ p9 it2 11 499 = (stP (p9 it1 11 499) 8 a b).2) (s9 : ∀ j, S' j → j = 499 ∨ j = 500) (f9 : ∀ k, F k → k = 11) : RP lg2 it2 ∧ v = v' := by
  rw [p9_8 k8 (fun j hj => by have := s8 j hj; omega) (by decide)] at q9
  obtain ⟨e, q⟩ := pq_st (a := a) (b := b) h.2.2.1 (cap := 8) h.2.2.1.2.2.1 (by decide)
  rw [← q8.2, ← q9.2] at q
  exact ⟨rp_l (Or.inr (Or.inr ⟨rfl, rfl, rfl⟩)) h k8 (fun j hj => s8 j hj) k9 s9 f9 q, by rw [q8.1, q9.1]; exact e⟩
theorem rp_event {S S' F : Nat → Prop} {lg lg1 lg2 : LGt} {it it1 it2 : ITt} {v v' a b : Int32} {N N' : Nat} (h : RP lg it) (k8 : Kc S lg it lg1 it1) (s8 : ∀ j, S j → 22 ≤ j ∧ j < 25) (hN : N' = N) (q8 : v = (evP N (p8 it 22) a b).1 ∧ p8 it1 22 = (evP N (p8 it 22) a b).2) (k9 : Kd S' F lg1 it1 lg2 it2) (q9 : v' = (evP N' (p9 it1 10 497) a b).1 ∧ p9 it2 10 497 = (evP N' (p9 it1 10 497) a b).2) (s9 : ∀ j, S' j → j = 497 ∨ j = 498) (f9 : ∀ k, F k → k = 10) : RP lg2 it2 ∧ v = v' := by
  subst hN
  rw [p9_8 k8 (fun j hj => by have := s8 j hj; omega) (by decide)] at q9
  obtain ⟨e, q⟩ := pq_ev (N := N') (a := a) (b := b) h.2.1
  rw [← q8.2, ← q9.2] at q
  exact ⟨rp_l (Or.inr (Or.inl ⟨rfl, rfl, rfl⟩)) h k8 (fun j hj => s8 j hj) k9 s9 f9 q, by rw [q8.1, q9.1]; exact e⟩
theorem rp_und {S' F : Nat → Prop} {lg lg1 lg2 : LGt} {it it1 it2 : ITt} {v v' : Int32} (h : RP lg it) (hA : RA lg it) (hI : I8 lg it) (k8 : Kc (fun j => (1 ≤ j ∧ j < 28)) lg it lg1 it1) (q8 : (it 0 2 = 0 ∧ v = -3 ∧ lg1 = lg ∧ it1 = it) ∨ (¬ it 0 2 = 0 ∧ v = it1 2 0 ∧ (vw8 lg1 it1 2 = vw8 lg it 29 ∧ (Ok8 it 29 → Ok8 it1 2)) ∧ p8 it1 19 = bcP (p8 it 19) (p8 it 46) ∧ p8 it1 22 = bcP (p8 it 22) (p8 it 49) ∧ p8 it1 25 = bcP (p8 it 25) (p8 it 52)))
    (k9 : Kd S' F lg1 it1 lg2 it2) (q9 : (it1 489 61 = 0 ∧ v' = -3 ∧ lg2 = lg1 ∧ it2 = it1) ∨ (¬ it1 489 61 = 0 ∧ v' = it2 489 0 ∧ UN9 lg2 it2 lg1)) (s9 : ∀ j, S' j → 489 < j ∧ j ≠ 522) : RP lg2 it2 := by
  rcases q8 with ⟨a1, _, rfl, rfl⟩ | ⟨a1, _, _, a4, a5, a6⟩
  · rcases q9 with ⟨b1, _, rfl, rfl⟩ | ⟨b1, _⟩
    · exact h
    · exact absurd ((ra_i hA).1.mp a1) b1
  · rcases q9 with ⟨b1, _⟩ | ⟨b1, _, b3⟩
    · rw [(k8 489 (by omega)).2] at b1
      exact absurd ((ra_i hA).1.mpr b1) a1
    · exact rp_undo h hI a1 k8 (fun j hj => hj) a4 a5 a6 k9 b3 s9
/-- how many of each there are -/
def ctA (a x y z w : Int32) : Int32 := if a.toInt = 0 then x else if a.toInt = 1 then y else if a.toInt = 2 then z else if a.toInt = 3 then w else -2
theorem f_X8_count (a1 : Int32) {lg0 : LGt} {it0 : ITt} (hI : I8 lg0 it0) : w_X8_count a1 (fun (v : Int32) (lg' : LGt) (it' : ITt) => (I8 lg' it' ∧ Kc (fun j => False) lg0 it0 lg' it') ∧ v = ctA a1 (it0 19 2) (it0 22 2) (it0 25 2) (it0 467 1)) lg0 it0 := by
  unfold w_X8_count ctA
  refine ⟨fun c => ⟨⟨hI, kc_r⟩, ?_⟩, fun c => ⟨⟨hI, kc_r⟩, ?_⟩, fun c => ⟨⟨hI, kc_r⟩, ?_⟩, fun c => ⟨⟨hI, kc_r⟩, ?_⟩, fun c => ⟨⟨hI, kc_r⟩, ?_⟩, trivial⟩
  · rw [if_neg (by omega), if_neg (by omega), if_neg (by omega), if_neg (by omega)]
  · rw [if_pos c]
  · rw [if_neg (by omega), if_pos c]
  · rw [if_neg (by omega), if_neg (by omega), if_pos c]
  · rw [if_neg (by omega), if_neg (by omega), if_neg (by omega), if_pos c]
theorem f_X9_count (a1 : Int32) {lg0 : LGt} {it0 : ITt} (hI : I9 lg0 it0) : w_X9_count a1 (fun (v : Int32) (lg' : LGt) (it' : ITt) => (I9 lg' it' ∧ Kd (fun j => False) (fun k => False) lg0 it0 lg' it') ∧ v = ctA a1 (it0 489 9) (it0 489 10) (it0 489 11) (it0 489 50)) lg0 it0 := by
  unfold w_X9_count ctA
  refine ⟨fun c => ⟨⟨hI, kd_r⟩, ?_⟩, fun c => ⟨⟨hI, kd_r⟩, ?_⟩, fun c => ⟨⟨hI, kd_r⟩, ?_⟩, fun c => ⟨⟨hI, kd_r⟩, ?_⟩, fun c => ⟨⟨hI, kd_r⟩, ?_⟩, trivial⟩
  · rw [if_neg (by omega), if_neg (by omega), if_neg (by omega), if_neg (by omega)]
  · rw [if_pos c]
  · rw [if_neg (by omega), if_pos c]
  · rw [if_neg (by omega), if_neg (by omega), if_pos c]
  · rw [if_neg (by omega), if_neg (by omega), if_neg (by omega), if_pos c]
theorem ct_x {S : Nat → Prop} {lg lg1 : LGt} {it it1 : ITt} {v v' a : Int32} (h : RP lg it) (hA : RA lg it) (k8 : Kc S lg it lg1 it1) (s8 : ∀ j, S j → False) (q8 : v = ctA a (it 19 2) (it 22 2) (it 25 2) (it 467 1)) (q9 : v' = ctA a (it1 489 9) (it1 489 10) (it1 489 11) (it1 489 50)) : v = v' := by
  have e1 : it 19 2 = it 489 9 := h.1.1
  have e2 : it 22 2 = it 489 10 := h.2.1.1
  have e3 : it 25 2 = it 489 11 := h.2.2.1.1
  have e4 : it 467 1 = it 489 50 := (ra_t hA).1
  rw [(k8 489 (fun q => s8 _ q)).2] at q9
  rw [q8, q9, e1, e2, e3, e4]
