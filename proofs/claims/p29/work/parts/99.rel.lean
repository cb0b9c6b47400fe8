/-! what both sides hold alike: the rail, its image, the text; and what the first side's lists may hold -/
def IMr (lg : LGt) (it : ITt) : Prop := (it 0 2 = 0 ↔ it 489 61 = 0) ∧ (¬ it 0 2 = 0 → RV lg it 29 (vk9 lg) ∧ VO (vk9 lg))
def TXr (it : ITt) : Prop := it 467 1 = it 489 50 ∧ ∀ p, p < (it 467 1).toNatClampNeg → it 468 p = it 513 p ∧ 0 ≤ (it 468 p).toInt
def LSr (it : ITt) : Prop := AS (p8 it 19) ∧ AS (p8 it 46) ∧ AE (p8 it 22) ∧ AE (p8 it 49)
def RA (lg : LGt) (it : ITt) : Prop := (RV lg it 2 (vw9 lg it) ∧ VO (vw9 lg it)) ∧ CI lg it ∧ IMr lg it ∧ TXr it ∧ LSr it
theorem ra_v {lg : LGt} {it : ITt} (h : RA lg it) : RV lg it 2 (vw9 lg it) := h.1.1
theorem ra_o {lg : LGt} {it : ITt} (h : RA lg it) : VO (vw9 lg it) := h.1.2
theorem ra_c {lg : LGt} {it : ITt} (h : RA lg it) : CI lg it := h.2.1
theorem ra_i {lg : LGt} {it : ITt} (h : RA lg it) : IMr lg it := h.2.2.1
theorem ra_t {lg : LGt} {it : ITt} (h : RA lg it) : TXr it := h.2.2.2.1
theorem ra_l {lg : LGt} {it : ITt} (h : RA lg it) : LSr it := h.2.2.2.2
theorem ra_p {lg : LGt} {it : ITt} (h : RA lg it) : ∀ p, p < (it 467 1).toNatClampNeg → 0 ≤ (it 468 p).toInt := fun p hp => ((ra_t h).2 p hp).2
theorem k9_8 {S : Nat → Prop} {lg lg' : LGt} {it it' : ITt} (hk : Kc S lg it lg' it') (hs : ∀ j, S j → j < 489) : vk9 lg' = vk9 lg := by
  unfold vk9
  rw [(hk 522 (fun q => by have := hs _ q; omega)).1]
theorem ra_q {S : Nat → Prop} {lg lg' : LGt} {it it' : ITt} (h : RA lg it) (hk : Kc S lg it lg' it') (hc : CI lg' it') (hs : ∀ j, S j → (25 ≤ j ∧ j < 28) ∨ (52 ≤ j ∧ j < 467) ∨ (473 ≤ j ∧ j < 489)) : RA lg' it' := by
  have e (j : Nat) (q : ¬ ((25 ≤ j ∧ j < 28) ∨ (52 ≤ j ∧ j < 467) ∨ (473 ≤ j ∧ j < 489))) : it' j = it j := (hk j (fun z => q (hs j z))).2
  have w := w9_8 hk (fun j hj => by have := hs j hj; omega)
  have w2 := k9_8 hk (fun j hj => by have := hs j hj; omega)
  refine ⟨⟨?_, ?_⟩, hc, ⟨?_, fun q => ?_⟩, ?_, ?_, ?_, ?_, ?_⟩
  · rw [w]; exact rv_k (ra_v h) hk (fun j hj => by have := hs j hj; omega)
  · rw [w]; exact ra_o h
  · rw [e 0 (by omega), e 489 (by omega)]; exact (ra_i h).1
  · rw [e 0 (by omega)] at q
    obtain ⟨a, b⟩ := (ra_i h).2 q
    rw [w2]
    exact ⟨rv_k a hk (fun j hj => by have := hs j hj; omega), b⟩
  · unfold TXr
    rw [e 467 (by omega), e 489 (by omega), e 468 (by omega), e 513 (by omega)]
    exact ra_t h
  · rw [p8_k hk (fun j hj => by have := hs j hj; omega)]; exact (ra_l h).1
  · rw [p8_k hk (fun j hj => by have := hs j hj; omega)]; exact (ra_l h).2.1
  · rw [p8_k hk (fun j hj => by have := hs j hj; omega)]; exact (ra_l h).2.2.1
  · rw [p8_k hk (fun j hj => by have := hs j hj; omega)]; exact (ra_l h).2.2.2
theorem ra_8 {S : Nat → Prop} {lg lg' : LGt} {it it' : ITt} (h : RA lg it) (hk : Kc S lg it lg' it') (hs : ∀ j, S j → (25 ≤ j ∧ j < 28) ∨ (52 ≤ j ∧ j < 55) ∨ (437 ≤ j ∧ j < 467) ∨ (473 ≤ j ∧ j < 489)) : RA lg' it' := ra_q h hk (ci_k (ra_c h) hk (fun j hj => by have := hs j hj; omega)) (fun j hj => by have := hs j hj; omega)
/-- the second side alone moved, and its rail didn't -/
theorem ra_9w {S F : Nat → Prop} {lg lg' : LGt} {it it' : ITt} (h1 : RV lg it 2 (vw9 lg' it')) (h2 : VO (vw9 lg' it')) (h3 : CI lg it) (h4 : (it 0 2 = 0 ↔ it 489 61 = 0) ∧ (¬ it 0 2 = 0 → RV lg it 29 (vk9 lg) ∧ VO (vk9 lg))) (h6 : LSr it) (hk : Kd S F lg it lg' it') (hs : ∀ j, S j → 489 < j ∧ j ≠ 522) (hf : ∀ k, F k → k ≠ 61) (h5 : TXr it') : RA lg' it' := by
  have e (j : Nat) (q : j < 489 ∨ j = 522) : lg' j = lg j ∧ it' j = it j := hk.1 j (by omega) (fun z => by have := hs j z; omega)
  have c : Kc (fun j => 489 ≤ j ∧ ¬ j = 522) lg it lg' it' := fun j hj => e j (by omega)
  have p (a : Nat) (ha : a < 480) : p8 it' a = p8 it a := p8_k c (fun j hj => by omega)
  refine ⟨⟨rv_k h1 c (fun j hj => by omega), h2⟩, ci_k h3 c (fun j hj => by omega), ⟨?_, fun q => ?_⟩, h5, ?_⟩
  · rw [(e 0 (by omega)).2, (hk.2 61 (fun z => hf 61 z rfl)).2]; exact h4.1
  · rw [(e 0 (by omega)).2] at q
    obtain ⟨a, b⟩ := h4.2 q
    have w2 : vk9 lg' = vk9 lg := by unfold vk9; rw [(e 522 (by omega)).1]
    rw [w2]
    exact ⟨rv_k a c (fun j hj => by omega), b⟩
  · unfold LSr
    rw [p 19 (by omega), p 46 (by omega), p 22 (by omega), p 49 (by omega)]
    exact h6
theorem tx_9 {S F : Nat → Prop} {lg lg' : LGt} {it it' : ITt} (h : TXr it) (hk : Kd S F lg it lg' it') (hs : ∀ j, S j → 489 < j ∧ j ≠ 513) (hf : ∀ k, F k → k ≠ 50) : TXr it' := by
  unfold TXr
  rw [(hk.1 467 (by decide) (fun z => by have := hs _ z; omega)).2, (hk.1 468 (by decide) (fun z => by have := hs _ z; omega)).2, (hk.1 513 (by decide) (fun z => by have := hs _ z; omega)).2, (hk.2 50 (fun z => hf 50 z rfl)).2]
  exact h
theorem ra_9 {S F : Nat → Prop} {lg lg' : LGt} {it it' : ITt} (h : RA lg it) (hk : Kd S F lg it lg' it') (hs : ∀ j, S j → 494 < j ∧ j ≠ 513 ∧ j ≠ 522) (hf : ∀ k, F k → 3 < k ∧ k ≠ 50 ∧ k ≠ 61) : RA lg' it' := by
  have w := w9_k hk (fun j hj => by have := hs j hj; omega) (fun k q => (hf k q).1)
  exact ra_9w (by rw [w]; exact ra_v h) (by rw [w]; exact ra_o h) (ra_c h) (ra_i h) (ra_l h) hk (fun j hj => by have := hs j hj; omega) (fun k q => (hf k q).2.2) (tx_9 (ra_t h) hk (fun j hj => by have := hs j hj; omega) (fun k q => (hf k q).2.1))
/-- both sides' rails became W -/
theorem ra_m {S S' F : Nat → Prop} {lg lg1 lg2 : LGt} {it it1 it2 : ITt} (h : RA lg it) (W : Rlv) (hW : VO W) (k8 : Kc S lg it lg1 it1) (s8 : ∀ j, S j → (2 ≤ j ∧ j < 19) ∨ (55 ≤ j ∧ j < 467) ∨ (473 ≤ j ∧ j < 489)) (r8 : RV lg1 it1 2 W) (c8 : CI lg1 it1) (k9 : Kd S' F lg1 it1 lg2 it2) (e9 : vw9 lg2 it2 = W) (s9 : ∀ j, S' j → 489 < j ∧ j ≠ 513 ∧ j ≠ 522) (f9 : ∀ k, F k → k ≠ 50 ∧ k ≠ 61) : RA lg2 it2 := by
  have e (j : Nat) (q : ¬ ((2 ≤ j ∧ j < 19) ∨ (55 ≤ j ∧ j < 467) ∨ (473 ≤ j ∧ j < 489))) : it1 j = it j := (k8 j (fun z => q (s8 j z))).2
  have p (a : Nat) (ha : 19 ≤ a ∧ a ≤ 50) : p8 it1 a = p8 it a := p8_k k8 (fun j hj => by have := s8 j hj; omega)
  refine ra_9w (by rw [e9]; exact r8) (by rw [e9]; exact hW) c8 ⟨?_, fun q => ?_⟩ ?_ k9 (fun j hj => by have := s9 j hj; omega) (fun k q => (f9 k q).2) (tx_9 ?_ k9 (fun j hj => by have := s9 j hj; omega) (fun k q => (f9 k q).1))
  · rw [e 0 (by omega), e 489 (by omega)]; exact (ra_i h).1
  · rw [e 0 (by omega)] at q
    obtain ⟨a, b⟩ := (ra_i h).2 q
    rw [k9_8 k8 (fun j hj => by have := s8 j hj; omega)]
    exact ⟨rv_k a k8 (fun j hj => by have := s8 j hj; omega), b⟩
  · unfold LSr
    rw [p 19 (by omega), p 46 (by omega), p 22 (by omega), p 49 (by omega)]
    exact ra_l h
  · unfold TXr
    rw [e 467 (by omega), e 489 (by omega), e 468 (by omega), e 513 (by omega)]
    exact ra_t h
/-- read: the text is gone on both sides -/
theorem ra_read {S' F : Nat → Prop} {lg lg1 lg2 : LGt} {it it1 it2 : ITt} (h : RA lg it) (W : Rlv) (hW : VO W) (k8 : Kc S8r lg it lg1 it1) (r8 : RV lg1 it1 2 W) (c8 : CI lg1 it1) (z8 : it1 467 1 = 0) (k9 : Kd S' F lg1 it1 lg2 it2) (e9 : vw9 lg2 it2 = W) (z9 : it2 489 50 = 0) (s9 : ∀ j, S' j → 489 < j ∧ j ≠ 522) (f9 : ∀ k, F k → k ≠ 61) : RA lg2 it2 := by
  have e (j : Nat) (q : ¬ S8r j) : it1 j = it j := (k8 j q).2
  have u (j : Nat) (q : S8r j) : (2 ≤ j ∧ j < 19) ∨ (55 ≤ j ∧ j < 489) := by unfold S8r at q; omega
  have u2 (j : Nat) (q : ¬ ((2 ≤ j ∧ j < 19) ∨ (55 ≤ j ∧ j < 489))) : ¬ S8r j := fun z => q (u j z)
  have p (a : Nat) (ha : 19 ≤ a ∧ a ≤ 50) : p8 it1 a = p8 it a := p8_k k8 (fun j hj => by have := u j hj; omega)
  refine ra_9w (by rw [e9]; exact r8) (by rw [e9]; exact hW) c8 ⟨?_, fun q => ?_⟩ ?_ k9 s9 f9 ⟨?_, ?_⟩
  · rw [e 0 (u2 0 (by omega)), e 489 (u2 489 (by omega))]; exact (ra_i h).1
  · rw [e 0 (u2 0 (by omega))] at q
    obtain ⟨a, b⟩ := (ra_i h).2 q
    rw [k9_8 k8 (fun j hj => by have := u j hj; omega)]
    exact ⟨rv_k a k8 (fun j hj => by have := u j hj; omega), b⟩
  · unfold LSr
    rw [p 19 (by omega), p 46 (by omega), p 22 (by omega), p 49 (by omega)]
    exact ra_l h
  · rw [(k9.1 467 (by decide) (fun z => by have := s9 _ z; omega)).2, z8, z9]
  · rw [(k9.1 467 (by decide) (fun z => by have := s9 _ z; omega)).2, z8]
    intro q hq
    exact absurd hq (by rw [show (0 : Int32).toNatClampNeg = 0 by decide]; omega)
theorem tx_rd {lg : LGt} {it : ITt} (h : RA lg it) (V : Rlv) : rdA (tx8 it) V = rdA (tx9 it) V := by
  obtain ⟨a, b⟩ := ra_t h
  refine rd_eq ?_ (fun q hq => (b q hq).1) V
  show (it 467 1).toNatClampNeg = (it 489 50).toNatClampNeg
  rw [a]
theorem tx9_8 {S : Nat → Prop} {lg lg' : LGt} {it it' : ITt} (hk : Kc S lg it lg' it') (hs : ∀ j, S j → j < 489) : tx9 it' = tx9 it := by
  unfold tx9
  rw [(hk 489 (fun q => by have := hs _ q; omega)).2, (hk 513 (fun q => by have := hs _ q; omega)).2]
theorem s8r_lt {j : Nat} (h : S8r j) : j < 489 := by unfold S8r at h; omega
/-- seen, and what happens: the first side's lists -/
theorem ra_st {S : Nat → Prop} {lg lg1 : LGt} {it it1 : ITt} {a b : Int32} (h : RA lg it) (k8 : Kc S lg it lg1 it1) (s8 : ∀ j, S j → 19 ≤ j ∧ j < 22) (e : p8 it1 19 = (stP (p8 it 19) 5 a b).2) : RA lg1 it1 := by
  have u (j : Nat) (q : ¬ (19 ≤ j ∧ j < 22)) : it1 j = it j := (k8 j (fun z => q (s8 j z))).2
  have w := w9_8 k8 (fun j hj => by have := s8 j hj; omega)
  have w2 := k9_8 k8 (fun j hj => by have := s8 j hj; omega)
  refine ⟨⟨by rw [w]; exact rv_k (ra_v h) k8 (fun j hj => by have := s8 j hj; omega), by rw [w]; exact ra_o h⟩, ci_k (ra_c h) k8 (fun j hj => by have := s8 j hj; omega), ⟨?_, fun q => ?_⟩, ?_, ?_, ?_, ?_, ?_⟩
  · rw [u 0 (by omega), u 489 (by omega)]; exact (ra_i h).1
  · rw [u 0 (by omega)] at q
    obtain ⟨x, y⟩ := (ra_i h).2 q
    rw [w2]
    exact ⟨rv_k x k8 (fun j hj => by have := s8 j hj; omega), y⟩
  · unfold TXr
    rw [u 467 (by omega), u 489 (by omega), u 468 (by omega), u 513 (by omega)]
    exact ra_t h
  · rw [e]; exact as_st (ra_l h).1
  · rw [p8_k k8 (fun j hj => by have := s8 j hj; omega)]; exact (ra_l h).2.1
  · rw [p8_k k8 (fun j hj => by have := s8 j hj; omega)]; exact (ra_l h).2.2.1
  · rw [p8_k k8 (fun j hj => by have := s8 j hj; omega)]; exact (ra_l h).2.2.2
theorem ra_ev {S : Nat → Prop} {lg lg1 : LGt} {it it1 : ITt} {N : Nat} {a b : Int32} (h : RA lg it) (k8 : Kc S lg it lg1 it1) (s8 : ∀ j, S j → 22 ≤ j ∧ j < 25) (e : p8 it1 22 = (evP N (p8 it 22) a b).2) : RA lg1 it1 := by
  have u (j : Nat) (q : ¬ (22 ≤ j ∧ j < 25)) : it1 j = it j := (k8 j (fun z => q (s8 j z))).2
  have w := w9_8 k8 (fun j hj => by have := s8 j hj; omega)
  have w2 := k9_8 k8 (fun j hj => by have := s8 j hj; omega)
  refine ⟨⟨by rw [w]; exact rv_k (ra_v h) k8 (fun j hj => by have := s8 j hj; omega), by rw [w]; exact ra_o h⟩, ci_k (ra_c h) k8 (fun j hj => by have := s8 j hj; omega), ⟨?_, fun q => ?_⟩, ?_, ?_, ?_, ?_, ?_⟩
  · rw [u 0 (by omega), u 489 (by omega)]; exact (ra_i h).1
  · rw [u 0 (by omega)] at q
    obtain ⟨x, y⟩ := (ra_i h).2 q
    rw [w2]
    exact ⟨rv_k x k8 (fun j hj => by have := s8 j hj; omega), y⟩
  · unfold TXr
    rw [u 467 (by omega), u 489 (by omega), u 468 (by omega), u 513 (by omega)]
    exact ra_t h
  · rw [p8_k k8 (fun j hj => by have := s8 j hj; omega)]; exact (ra_l h).1
  · rw [p8_k k8 (fun j hj => by have := s8 j hj; omega)]; exact (ra_l h).2.1
  · rw [e]; exact ae_ev (ra_l h).2.2.1
  · rw [p8_k k8 (fun j hj => by have := s8 j hj; omega)]; exact (ra_l h).2.2.2
