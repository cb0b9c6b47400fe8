/-! the tapes' sorts and sizes: the same on both sides -/
def RT (it : ITt) : Prop := ∀ t : Nat, t < 6 → it (474 + 2 * t) 0 = it 518 t ∧ it (474 + 2 * t) 1 = it 519 t ∧ -1 ≤ (it 518 t).toInt
theorem RT_0 : RT IT0 := by unfold RT; decide +kernel
theorem rt_8 {S : Nat → Prop} {lg lg' : LGt} {it it' : ITt} (h : RT it) (hk : Kc S lg it lg' it') (hs : ∀ j, S j → j ≤ 473 ∨ (486 ≤ j ∧ j < 489)) : RT it' := by
  intro t ht
  have e (j : Nat) (q : j ≤ 485 ∧ 473 < j ∨ 489 ≤ j) : it' j = it j := (hk j (fun z => by have := hs j z; omega)).2
  rw [e (474 + 2 * t) (by omega), e 518 (by decide), e 519 (by decide)]
  exact h t ht
theorem rt_9 {S F : Nat → Prop} {lg lg' : LGt} {it it' : ITt} (h : RT it) (hk : Kd S F lg it lg' it') (hs : ∀ j, S j → 489 ≤ j ∧ j ≠ 518 ∧ j ≠ 519) : RT it' := by
  intro t ht
  have e (j : Nat) (q : j < 489 ∨ j = 518 ∨ j = 519) : it' j = it j := (hk.1 j (by omega) (fun z => by have := hs j z; omega)).2
  rw [e (474 + 2 * t) (by omega), e 518 (by decide), e 519 (by decide)]
  exact h t ht
theorem rt_e {it it' : ITt} (h : RT it) (e : ∀ j, it' j = it j) : RT it' := by
  intro t ht
  rw [e (474 + 2 * t), e 518, e 519]
  exact h t ht
theorem rt_n {a : Int32} (h : 0 ≤ a.toInt ∧ a.toInt ≤ 5) : a.toNatClampNeg < 6 := by have := cl32 h.1; omega
/-! what tape answers, on both sides -/
def tapeA (a b c : Int32) : Int32 := if ¬ (0 ≤ a.toInt ∧ a.toInt ≤ 5) then -1 else if ¬ (-1 ≤ b.toInt ∧ b.toInt ≤ 4) ∨ (0 ≤ b.toInt ∧ 60 < c.toInt) then -2 else if 0 ≤ b.toInt ∧ c.toInt < 0 then -14 else 1
theorem tp_n {a b c : Int32} (h : ¬ (0 ≤ a.toInt ∧ a.toInt ≤ 5)) : (-1 : Int32) = tapeA a b c := by unfold tapeA; rw [if_pos h]
theorem tp_b {a b c : Int32} (h : 0 ≤ a.toInt ∧ a.toInt ≤ 5) (h2 : ¬ (-1 ≤ b.toInt ∧ b.toInt ≤ 4) ∨ (0 ≤ b.toInt ∧ 60 < c.toInt)) : (-2 : Int32) = tapeA a b c := by unfold tapeA; rw [if_neg (fun q => q h), if_pos h2]
theorem tp_s {a b c : Int32} (h : 0 ≤ a.toInt ∧ a.toInt ≤ 5) (h2 : ¬ (¬ (-1 ≤ b.toInt ∧ b.toInt ≤ 4) ∨ (0 ≤ b.toInt ∧ 60 < c.toInt))) (h3 : 0 ≤ b.toInt ∧ c.toInt < 0) : (-14 : Int32) = tapeA a b c := by unfold tapeA; rw [if_neg (fun q => q h), if_neg h2, if_pos h3]
theorem tp_1 {a b c : Int32} (h : 0 ≤ a.toInt ∧ a.toInt ≤ 5) (h2 : ¬ (¬ (-1 ≤ b.toInt ∧ b.toInt ≤ 4) ∨ (0 ≤ b.toInt ∧ 60 < c.toInt))) (h3 : ¬ (0 ≤ b.toInt ∧ c.toInt < 0)) : (1 : Int32) = tapeA a b c := by unfold tapeA; rw [if_neg (fun q => q h), if_neg h2, if_neg h3]
/-- the sorts and sizes behind tape -/
def TS (v a b c : Int32) (f g f' g' : Nat → Int32) : Prop := ∀ t : Nat, t < 6 → f' t = (if t = a.toNatClampNeg ∧ v = 1 then b else f t) ∧ g' t = (if t = a.toNatClampNeg ∧ v = 1 then (if b.toInt < 0 then 0 else c) else g t)
theorem TS_0 {v a b c : Int32} {f g : Nat → Int32} (h : ¬ v = 1) : TS v a b c f g f g := fun t _ => by rw [if_neg (fun q => h q.2), if_neg (fun q => h q.2)]; exact ⟨rfl, rfl⟩
theorem TS_8 {a b c c' : Int32} {it it' : ITt} (e : it' = u2 (u2 it (474 + 2 * a.toNatClampNeg) 0 b) (474 + 2 * a.toNatClampNeg) 1 c') (hc : c' = if b.toInt < 0 then 0 else c) : TS 1 a b c (fun t => it (474 + 2 * t) 0) (fun t => it (474 + 2 * t) 1) (fun t => it' (474 + 2 * t) 0) (fun t => it' (474 + 2 * t) 1) := by
  intro t ht
  subst e hc
  unfold u2
  by_cases q : t = a.toNatClampNeg
  · subst q
    constructor <;> simp
  · have z : ¬ (474 + 2 * t = 474 + 2 * a.toNatClampNeg) := by omega
    have z2 : ¬ (2 * t = 2 * a.toNatClampNeg) := by omega
    constructor <;> simp [q, z, z2]
theorem TS_9 {a b c c' : Int32} {it it1 it2 : ITt} (e2 : it2 = u2 it1 519 a.toNatClampNeg c') (e1 : it1 = u2 it 518 a.toNatClampNeg b) (hc : c' = if b.toInt < 0 then 0 else c) : TS 1 a b c (it 518) (it 519) (it2 518) (it2 519) := by
  intro t ht
  subst e1 e2 hc
  unfold u2
  by_cases q : t = a.toNatClampNeg
  · subst q
    constructor <;> simp
  · constructor <;> simp [q]
theorem rt_tape {S S' F : Nat → Prop} {lg lg1 lg2 : LGt} {it it1 it2 : ITt} {v v' a b c : Int32} (h : RT it) (e8 : v = tapeA a b c) (t8 : TS v a b c (fun t => it (474 + 2 * t) 0) (fun t => it (474 + 2 * t) 1) (fun t => it1 (474 + 2 * t) 0) (fun t => it1 (474 + 2 * t) 1)) (k8 : Kc S lg it lg1 it1) (s8 : ∀ j, S j → j < 489)
    (e9 : v' = tapeA a b c) (t9 : TS v' a b c (it1 518) (it1 519) (it2 518) (it2 519)) (k9 : Kd S' F lg1 it1 lg2 it2) (s9 : ∀ j, S' j → 489 ≤ j) : RT it2 := by
  intro t ht
  have n8 (j : Nat) (q : 489 ≤ j) : it1 j = it j := (k8 j (fun z => by have := s8 j z; omega)).2
  have n9 : it2 (474 + 2 * t) = it1 (474 + 2 * t) := (k9.1 (474 + 2 * t) (by omega) (fun z => by have := s9 _ z; omega)).2
  obtain ⟨p1, p2⟩ := t8 t ht
  obtain ⟨q1, q2⟩ := t9 t ht
  obtain ⟨h1, h2, h3⟩ := h t ht
  have ev : v' = v := e9.trans e8.symm
  rw [n8 518 (by decide), ev] at q1
  rw [n8 519 (by decide), ev] at q2
  dsimp only at p1 p2
  rw [n9, p1, p2, q1, q2, h1, h2]
  refine ⟨rfl, rfl, ?_⟩
  split
  · rename_i z
    have e := e8.symm.trans z.2
    unfold tapeA at e
    split at e
    · exact absurd e (by decide)
    · split at e
      · exact absurd e (by decide)
      · omega
  · exact h3
/-- no int is other -/
def Ki (S : Nat → Prop) (lg : LGt) (it : ITt) (lg' : LGt) (it' : ITt) : Prop := Kc S lg it lg' it' ∧ ∀ j, it' j = it j
theorem ki_r {S : Nat → Prop} {lg : LGt} {it : ITt} : Ki S lg it lg it := ⟨kc_r, fun _ => rfl⟩
theorem ki_l {S : Nat → Prop} {lg lg' : LGt} {it it' : ITt} {j k : Nat} {v : Int64} (hs : S j) (h : Ki S lg it lg' it') : Ki S lg it (u2 lg' j k v) it' := ⟨kc_l hs h.1, h.2⟩
theorem ki_cpl {S : Nat → Prop} {lg lg' : LGt} {it it' : ITt} {a j sp dp n : Nat} (hs : S j) (h : Ki S lg it lg' it') : Ki S lg it (rcp lg' a j sp dp n) it' := ⟨kc_cpl hs h.1, h.2⟩
theorem ki_t {S S' : Nat → Prop} {lg lg' lg2 : LGt} {it it' it2 : ITt} (h : Ki S lg it lg' it') (h2 : Kc S' lg' it' lg2 it2) (hs : ∀ j, S' j → False) : Ki S lg it lg2 it2 := ⟨kc_t h.1 h2 (fun j q => (hs j q).elim), fun j => ((h2 j (hs j)).2).trans (h.2 j)⟩
def itemA (a b s z : Int32) : Int32 := if ¬ (0 ≤ a.toInt ∧ a.toInt ≤ 5) then -1 else if s.toInt < 0 then -11 else if ¬ (0 ≤ b.toInt ∧ b.toInt < z.toInt) then -13 else 1
def shiftA (a b c d n s z s' z' : Int32) : Int32 := if ¬ ((0 ≤ a.toInt ∧ a.toInt ≤ 5) ∧ (0 ≤ c.toInt ∧ c.toInt ≤ 5)) then -1 else if s.toInt < 0 ∨ s'.toInt < 0 then -11 else if ¬ s.toInt = s'.toInt then -12 else if n.toInt < 0 ∨ b.toInt < 0 ∨ d.toInt < 0 ∨ z.toInt - b.toInt < n.toInt ∨ z'.toInt - d.toInt < n.toInt then -13 else n
theorem item_x {it it1 : ITt} {v v' a b : Int32} (h : RT it) (k : ∀ j, it1 j = it j) (e1 : v = itemA a b (it (474 + 2 * a.toNatClampNeg) 0) (it (474 + 2 * a.toNatClampNeg) 1)) (e2 : v' = itemA a b (it1 518 a.toNatClampNeg) (it1 519 a.toNatClampNeg)) : v = v' := by
  rw [k 518, k 519] at e2
  by_cases q : 0 ≤ a.toInt ∧ a.toInt ≤ 5
  · obtain ⟨h1, h2, _⟩ := h _ (rt_n q)
    rw [e1, e2, h1, h2]
  · rw [e1, e2]
    unfold itemA
    rw [if_pos q, if_pos q]
theorem shift_x {it it1 : ITt} {v v' a b c d n : Int32} (h : RT it) (k : ∀ j, it1 j = it j) (e1 : v = shiftA a b c d n (it (474 + 2 * a.toNatClampNeg) 0) (it (474 + 2 * a.toNatClampNeg) 1) (it (474 + 2 * c.toNatClampNeg) 0) (it (474 + 2 * c.toNatClampNeg) 1)) (e2 : v' = shiftA a b c d n (it1 518 a.toNatClampNeg) (it1 519 a.toNatClampNeg) (it1 518 c.toNatClampNeg) (it1 519 c.toNatClampNeg)) : v = v' := by
  rw [k 518, k 519] at e2
  by_cases q : (0 ≤ a.toInt ∧ a.toInt ≤ 5) ∧ (0 ≤ c.toInt ∧ c.toInt ≤ 5)
  · obtain ⟨h1, h2, _⟩ := h _ (rt_n q.1)
    obtain ⟨h3, h4, _⟩ := h _ (rt_n q.2)
    rw [e1, e2, h1, h2, h3, h4]
  · rw [e1, e2]
    unfold shiftA
    rw [if_pos q, if_pos q]
theorem rt_lo {it : ITt} {a : Int32} (h : ∀ t : Nat, t < 6 → -1 ≤ (it (474 + 2 * t) 0).toInt) : ¬ (0 ≤ a.toInt ∧ a.toInt ≤ 5) ∨ -1 ≤ (it (474 + 2 * a.toNatClampNeg) 0).toInt := by
  by_cases q : 0 ≤ a.toInt ∧ a.toInt ≤ 5
  · exact Or.inr (h _ (rt_n q))
  · exact Or.inl q
theorem rt_h {it : ITt} (h : RT it) : ∀ t : Nat, t < 6 → -1 ≤ (it (474 + 2 * t) 0).toInt := fun t ht => by obtain ⟨h1, _, h3⟩ := h t ht; rw [h1]; exact h3
theorem t_X6_renewAs {a0 : Nat} (ha0 : a0 ∈ tb) (a1 : Int32) (a2 : Int32) {lg0 : LGt} {it0 : ITt} (hI : I8 lg0 it0) (hn : 0 ≤ a2.toInt ∧ a2.toInt ≤ 60) : w_X6_renewAs a0 a1 a2 (fun (lg' : LGt) (it' : ITt) => (I8 lg' it' ∧ Kc (fun j => (a0 ≤ j ∧ j < a0 + 2)) lg0 it0 lg' it') ∧ it' = u2 (u2 it0 a0 0 a1) a0 1 a2) lg0 it0 := by
  have h := s_X6_renewAs ha0 a1 a2 hI hn
  unfold w_X6_renewAs at h ⊢
  intro it1 e1 it3 e3 lg5 e5
  exact ⟨h it1 e1 it3 e3 lg5 e5, by rw [e3, e1]⟩
set_option maxRecDepth 100000 in
theorem t_X8_tape (a1 : Int32) (a2 : Int32) (a3 : Int32) {lg0 : LGt} {it0 : ITt} (hI : I8 lg0 it0) : w_X8_tape a1 a2 a3 (fun (v : Int32) (lg' : LGt) (it' : ITt) => (I8 lg' it' ∧ Kc (fun j => (473 ≤ j ∧ j < 486)) lg0 it0 lg' it') ∧ (v = tapeA a1 a2 a3 ∧ TS v a1 a2 a3 (fun t => it0 (474 + 2 * t) 0) (fun t => it0 (474 + 2 * t) 1) (fun t => it' (474 + 2 * t) 0) (fun t => it' (474 + 2 * t) 1)))  lg0 it0 := by
  have hb_a1 := And.intro a1.le_toInt a1.toInt_lt
  have hb_a2 := And.intro a2.le_toInt a2.toInt_lt
  have hb_a3 := And.intro a3.le_toInt a3.toInt_lt
  have hKr : Kc (fun j => (473 ≤ j ∧ j < 486)) lg0 it0 lg0 it0 := kc_r
  generalize hp : (fun (v : Int32) (lg' : LGt) (it' : ITt) => (I8 lg' it' ∧ Kc (fun j => (473 ≤ j ∧ j < 486)) lg0 it0 lg' it') ∧ (v = tapeA a1 a2 a3 ∧ TS v a1 a2 a3 (fun t => it0 (474 + 2 * t) 0) (fun t => it0 (474 + 2 * t) 1) (fun t => it' (474 + 2 * t) 0) (fun t => it' (474 + 2 * t) 1))) = Pz
  unfold w_X8_tape
  refine ⟨fun c4 => ?_, fun c4 => ?_⟩
  · try simp only [Int32.lt_iff_toInt_lt, Int32.le_iff_toInt_le, ← Int32.toInt_inj, Int32.toInt_toInt64, tiA, tlA] at c4
    refine ⟨fun c11 => ?_, fun c11 => ?_⟩
    · try simp only [Int32.lt_iff_toInt_lt, Int32.le_iff_toInt_le, ← Int32.toInt_inj, Int32.toInt_toInt64, tiA, tlA] at c11
      subst hp
      exact ⟨⟨hI, hKr⟩, ⟨by first | exact tp_n (by omega) | exact tp_b (by omega) (by omega) | exact tp_s (by omega) (by omega) (by omega) | exact tp_1 (by omega) (by omega) (by omega), by first | exact TS_0 (by decide) | exact TS_8 (by assumption) (by first | exact (if_neg (by omega)).symm | exact (if_pos (by omega)).symm)⟩⟩
    · try simp only [Int32.lt_iff_toInt_lt, Int32.le_iff_toInt_le, ← Int32.toInt_inj, Int32.toInt_toInt64, tiA, tlA] at c11
      refine ⟨fun c16 => ?_, fun c16 => ?_⟩
      · try simp only [Int32.lt_iff_toInt_lt, Int32.le_iff_toInt_le, ← Int32.toInt_inj, Int32.toInt_toInt64, tiA, tlA] at c16
        refine ⟨fun c24 => ?_, fun c24 => ?_⟩
        · try simp only [Int32.lt_iff_toInt_lt, Int32.le_iff_toInt_le, ← Int32.toInt_inj, Int32.toInt_toInt64, tiA, tlA] at c24
          unfold w_X8_tape_b36
          refine ⟨fun c38 => ?_, fun c38 => ?_⟩
          · try simp only [Int32.lt_iff_toInt_lt, Int32.le_iff_toInt_le, ← Int32.toInt_inj, Int32.toInt_toInt64, tiA, tlA] at c38
            unfold w_X8_tape_b48
            have hi26 : vp_in a1 6 := vp_of (by first | omega | ((try simp only [Int32.lt_iff_toInt_lt, Int32.le_iff_toInt_le, ← Int32.toInt_inj, Int32.toInt_toInt64, tiA, tlA]); omega) | (split <;> omega)) (by first | omega | ((try simp only [Int32.lt_iff_toInt_lt, Int32.le_iff_toInt_le, ← Int32.toInt_inj, Int32.toInt_toInt64, tiA, tlA]); omega) | (split <;> omega))
            refine ⟨hi26, ?_⟩
            have hz27 := vlt hi26
            refine ⟨fun c57 => ?_, fun c57 => ?_⟩
            · try simp only [Int32.lt_iff_toInt_lt, Int32.le_iff_toInt_le, ← Int32.toInt_inj, Int32.toInt_toInt64, tiA, tlA] at c57
              unfold w_X8_tape_b65
              refine ⟨_, t_X6_renewAs ((rtp (vlt (hi26)))) (a2) (a3) hI (by first | omega | (constructor <;> first | omega | ((try simp only [Int32.lt_iff_toInt_lt, Int32.le_iff_toInt_le, ← Int32.toInt_inj, Int32.toInt_toInt64, tiA, tlA]); omega))), ?_⟩
              intro lg28 it29 hq
              obtain ⟨⟨hI30, hK31⟩, ha34⟩ := hq
              have hK32 : Kc (fun j => (473 ≤ j ∧ j < 486)) lg0 it0 lg28 it29 := kc_t hKr hK31 (fun j hj => by first | omega | exact False.elim hj | (dsimp only at hj ⊢; omega))
              subst hp
              exact ⟨⟨hI30, hK32⟩, ⟨by first | exact tp_n (by omega) | exact tp_b (by omega) (by omega) | exact tp_s (by omega) (by omega) (by omega) | exact tp_1 (by omega) (by omega) (by omega), by first | exact TS_0 (by decide) | exact TS_8 (by assumption) (by first | exact (if_neg (by omega)).symm | exact (if_pos (by omega)).symm)⟩⟩
            · try simp only [Int32.lt_iff_toInt_lt, Int32.le_iff_toInt_le, ← Int32.toInt_inj, Int32.toInt_toInt64, tiA, tlA] at c57
              unfold w_X8_tape_b65
              refine ⟨_, t_X6_renewAs ((rtp (vlt (hi26)))) (a2) ((0 : Int32)) hI (by first | omega | (constructor <;> first | omega | ((try simp only [Int32.lt_iff_toInt_lt, Int32.le_iff_toInt_le, ← Int32.toInt_inj, Int32.toInt_toInt64, tiA, tlA]); omega))), ?_⟩
              intro lg35 it36 hq
              obtain ⟨⟨hI37, hK38⟩, ha41⟩ := hq
              have hK39 : Kc (fun j => (473 ≤ j ∧ j < 486)) lg0 it0 lg35 it36 := kc_t hKr hK38 (fun j hj => by first | omega | exact False.elim hj | (dsimp only at hj ⊢; omega))
              subst hp
              exact ⟨⟨hI37, hK39⟩, ⟨by first | exact tp_n (by omega) | exact tp_b (by omega) (by omega) | exact tp_s (by omega) (by omega) (by omega) | exact tp_1 (by omega) (by omega) (by omega), by first | exact TS_0 (by decide) | exact TS_8 (by assumption) (by first | exact (if_neg (by omega)).symm | exact (if_pos (by omega)).symm)⟩⟩
          · try simp only [Int32.lt_iff_toInt_lt, Int32.le_iff_toInt_le, ← Int32.toInt_inj, Int32.toInt_toInt64, tiA, tlA] at c38
            refine ⟨fun c42 => ?_, fun c42 => ?_⟩
            · try simp only [Int32.lt_iff_toInt_lt, Int32.le_iff_toInt_le, ← Int32.toInt_inj, Int32.toInt_toInt64, tiA, tlA] at c42
              unfold w_X8_tape_b48
              have hi42 : vp_in a1 6 := vp_of (by first | omega | ((try simp only [Int32.lt_iff_toInt_lt, Int32.le_iff_toInt_le, ← Int32.toInt_inj, Int32.toInt_toInt64, tiA, tlA]); omega) | (split <;> omega)) (by first | omega | ((try simp only [Int32.lt_iff_toInt_lt, Int32.le_iff_toInt_le, ← Int32.toInt_inj, Int32.toInt_toInt64, tiA, tlA]); omega) | (split <;> omega))
              refine ⟨hi42, ?_⟩
              have hz43 := vlt hi42
              refine ⟨fun c57 => ?_, fun c57 => ?_⟩
              · try simp only [Int32.lt_iff_toInt_lt, Int32.le_iff_toInt_le, ← Int32.toInt_inj, Int32.toInt_toInt64, tiA, tlA] at c57
                unfold w_X8_tape_b65
                refine ⟨_, t_X6_renewAs ((rtp (vlt (hi42)))) (a2) (a3) hI (by first | omega | (constructor <;> first | omega | ((try simp only [Int32.lt_iff_toInt_lt, Int32.le_iff_toInt_le, ← Int32.toInt_inj, Int32.toInt_toInt64, tiA, tlA]); omega))), ?_⟩
                intro lg44 it45 hq
                obtain ⟨⟨hI46, hK47⟩, ha50⟩ := hq
                have hK48 : Kc (fun j => (473 ≤ j ∧ j < 486)) lg0 it0 lg44 it45 := kc_t hKr hK47 (fun j hj => by first | omega | exact False.elim hj | (dsimp only at hj ⊢; omega))
                subst hp
                exact ⟨⟨hI46, hK48⟩, ⟨by first | exact tp_n (by omega) | exact tp_b (by omega) (by omega) | exact tp_s (by omega) (by omega) (by omega) | exact tp_1 (by omega) (by omega) (by omega), by first | exact TS_0 (by decide) | exact TS_8 (by assumption) (by first | exact (if_neg (by omega)).symm | exact (if_pos (by omega)).symm)⟩⟩
              · try simp only [Int32.lt_iff_toInt_lt, Int32.le_iff_toInt_le, ← Int32.toInt_inj, Int32.toInt_toInt64, tiA, tlA] at c57
                unfold w_X8_tape_b65
                refine ⟨_, t_X6_renewAs ((rtp (vlt (hi42)))) (a2) ((0 : Int32)) hI (by first | omega | (constructor <;> first | omega | ((try simp only [Int32.lt_iff_toInt_lt, Int32.le_iff_toInt_le, ← Int32.toInt_inj, Int32.toInt_toInt64, tiA, tlA]); omega))), ?_⟩
                intro lg51 it52 hq
                obtain ⟨⟨hI53, hK54⟩, ha57⟩ := hq
                have hK55 : Kc (fun j => (473 ≤ j ∧ j < 486)) lg0 it0 lg51 it52 := kc_t hKr hK54 (fun j hj => by first | omega | exact False.elim hj | (dsimp only at hj ⊢; omega))
                subst hp
                exact ⟨⟨hI53, hK55⟩, ⟨by first | exact tp_n (by omega) | exact tp_b (by omega) (by omega) | exact tp_s (by omega) (by omega) (by omega) | exact tp_1 (by omega) (by omega) (by omega), by first | exact TS_0 (by decide) | exact TS_8 (by assumption) (by first | exact (if_neg (by omega)).symm | exact (if_pos (by omega)).symm)⟩⟩
            · try simp only [Int32.lt_iff_toInt_lt, Int32.le_iff_toInt_le, ← Int32.toInt_inj, Int32.toInt_toInt64, tiA, tlA] at c42
              subst hp
              exact ⟨⟨hI, hKr⟩, ⟨by first | exact tp_n (by omega) | exact tp_b (by omega) (by omega) | exact tp_s (by omega) (by omega) (by omega) | exact tp_1 (by omega) (by omega) (by omega), by first | exact TS_0 (by decide) | exact TS_8 (by assumption) (by first | exact (if_neg (by omega)).symm | exact (if_pos (by omega)).symm)⟩⟩
        · try simp only [Int32.lt_iff_toInt_lt, Int32.le_iff_toInt_le, ← Int32.toInt_inj, Int32.toInt_toInt64, tiA, tlA] at c24
          refine ⟨fun c30 => ?_, fun c30 => ?_⟩
          · try simp only [Int32.lt_iff_toInt_lt, Int32.le_iff_toInt_le, ← Int32.toInt_inj, Int32.toInt_toInt64, tiA, tlA] at c30
            unfold w_X8_tape_b36
            refine ⟨fun c38 => ?_, fun c38 => ?_⟩
            · try simp only [Int32.lt_iff_toInt_lt, Int32.le_iff_toInt_le, ← Int32.toInt_inj, Int32.toInt_toInt64, tiA, tlA] at c38
              unfold w_X8_tape_b48
              have hi58 : vp_in a1 6 := vp_of (by first | omega | ((try simp only [Int32.lt_iff_toInt_lt, Int32.le_iff_toInt_le, ← Int32.toInt_inj, Int32.toInt_toInt64, tiA, tlA]); omega) | (split <;> omega)) (by first | omega | ((try simp only [Int32.lt_iff_toInt_lt, Int32.le_iff_toInt_le, ← Int32.toInt_inj, Int32.toInt_toInt64, tiA, tlA]); omega) | (split <;> omega))
              refine ⟨hi58, ?_⟩
              have hz59 := vlt hi58
              refine ⟨fun c57 => ?_, fun c57 => ?_⟩
              · try simp only [Int32.lt_iff_toInt_lt, Int32.le_iff_toInt_le, ← Int32.toInt_inj, Int32.toInt_toInt64, tiA, tlA] at c57
                unfold w_X8_tape_b65
                refine ⟨_, t_X6_renewAs ((rtp (vlt (hi58)))) (a2) (a3) hI (by first | omega | (constructor <;> first | omega | ((try simp only [Int32.lt_iff_toInt_lt, Int32.le_iff_toInt_le, ← Int32.toInt_inj, Int32.toInt_toInt64, tiA, tlA]); omega))), ?_⟩
                intro lg60 it61 hq
                obtain ⟨⟨hI62, hK63⟩, ha66⟩ := hq
                have hK64 : Kc (fun j => (473 ≤ j ∧ j < 486)) lg0 it0 lg60 it61 := kc_t hKr hK63 (fun j hj => by first | omega | exact False.elim hj | (dsimp only at hj ⊢; omega))
                subst hp
                exact ⟨⟨hI62, hK64⟩, ⟨by first | exact tp_n (by omega) | exact tp_b (by omega) (by omega) | exact tp_s (by omega) (by omega) (by omega) | exact tp_1 (by omega) (by omega) (by omega), by first | exact TS_0 (by decide) | exact TS_8 (by assumption) (by first | exact (if_neg (by omega)).symm | exact (if_pos (by omega)).symm)⟩⟩
              · try simp only [Int32.lt_iff_toInt_lt, Int32.le_iff_toInt_le, ← Int32.toInt_inj, Int32.toInt_toInt64, tiA, tlA] at c57
                unfold w_X8_tape_b65
                refine ⟨_, t_X6_renewAs ((rtp (vlt (hi58)))) (a2) ((0 : Int32)) hI (by first | omega | (constructor <;> first | omega | ((try simp only [Int32.lt_iff_toInt_lt, Int32.le_iff_toInt_le, ← Int32.toInt_inj, Int32.toInt_toInt64, tiA, tlA]); omega))), ?_⟩
                intro lg67 it68 hq
                obtain ⟨⟨hI69, hK70⟩, ha73⟩ := hq
                have hK71 : Kc (fun j => (473 ≤ j ∧ j < 486)) lg0 it0 lg67 it68 := kc_t hKr hK70 (fun j hj => by first | omega | exact False.elim hj | (dsimp only at hj ⊢; omega))
                subst hp
                exact ⟨⟨hI69, hK71⟩, ⟨by first | exact tp_n (by omega) | exact tp_b (by omega) (by omega) | exact tp_s (by omega) (by omega) (by omega) | exact tp_1 (by omega) (by omega) (by omega), by first | exact TS_0 (by decide) | exact TS_8 (by assumption) (by first | exact (if_neg (by omega)).symm | exact (if_pos (by omega)).symm)⟩⟩
            · try simp only [Int32.lt_iff_toInt_lt, Int32.le_iff_toInt_le, ← Int32.toInt_inj, Int32.toInt_toInt64, tiA, tlA] at c38
              refine ⟨fun c42 => ?_, fun c42 => ?_⟩
              · try simp only [Int32.lt_iff_toInt_lt, Int32.le_iff_toInt_le, ← Int32.toInt_inj, Int32.toInt_toInt64, tiA, tlA] at c42
                unfold w_X8_tape_b48
                have hi74 : vp_in a1 6 := vp_of (by first | omega | ((try simp only [Int32.lt_iff_toInt_lt, Int32.le_iff_toInt_le, ← Int32.toInt_inj, Int32.toInt_toInt64, tiA, tlA]); omega) | (split <;> omega)) (by first | omega | ((try simp only [Int32.lt_iff_toInt_lt, Int32.le_iff_toInt_le, ← Int32.toInt_inj, Int32.toInt_toInt64, tiA, tlA]); omega) | (split <;> omega))
                refine ⟨hi74, ?_⟩
                have hz75 := vlt hi74
                refine ⟨fun c57 => ?_, fun c57 => ?_⟩
                · try simp only [Int32.lt_iff_toInt_lt, Int32.le_iff_toInt_le, ← Int32.toInt_inj, Int32.toInt_toInt64, tiA, tlA] at c57
                  unfold w_X8_tape_b65
                  refine ⟨_, t_X6_renewAs ((rtp (vlt (hi74)))) (a2) (a3) hI (by first | omega | (constructor <;> first | omega | ((try simp only [Int32.lt_iff_toInt_lt, Int32.le_iff_toInt_le, ← Int32.toInt_inj, Int32.toInt_toInt64, tiA, tlA]); omega))), ?_⟩
                  intro lg76 it77 hq
                  obtain ⟨⟨hI78, hK79⟩, ha82⟩ := hq
                  have hK80 : Kc (fun j => (473 ≤ j ∧ j < 486)) lg0 it0 lg76 it77 := kc_t hKr hK79 (fun j hj => by first | omega | exact False.elim hj | (dsimp only at hj ⊢; omega))
                  subst hp
                  exact ⟨⟨hI78, hK80⟩, ⟨by first | exact tp_n (by omega) | exact tp_b (by omega) (by omega) | exact tp_s (by omega) (by omega) (by omega) | exact tp_1 (by omega) (by omega) (by omega), by first | exact TS_0 (by decide) | exact TS_8 (by assumption) (by first | exact (if_neg (by omega)).symm | exact (if_pos (by omega)).symm)⟩⟩
                · try simp only [Int32.lt_iff_toInt_lt, Int32.le_iff_toInt_le, ← Int32.toInt_inj, Int32.toInt_toInt64, tiA, tlA] at c57
                  unfold w_X8_tape_b65
                  refine ⟨_, t_X6_renewAs ((rtp (vlt (hi74)))) (a2) ((0 : Int32)) hI (by first | omega | (constructor <;> first | omega | ((try simp only [Int32.lt_iff_toInt_lt, Int32.le_iff_toInt_le, ← Int32.toInt_inj, Int32.toInt_toInt64, tiA, tlA]); omega))), ?_⟩
                  intro lg83 it84 hq
                  obtain ⟨⟨hI85, hK86⟩, ha89⟩ := hq
                  have hK87 : Kc (fun j => (473 ≤ j ∧ j < 486)) lg0 it0 lg83 it84 := kc_t hKr hK86 (fun j hj => by first | omega | exact False.elim hj | (dsimp only at hj ⊢; omega))
                  subst hp
                  exact ⟨⟨hI85, hK87⟩, ⟨by first | exact tp_n (by omega) | exact tp_b (by omega) (by omega) | exact tp_s (by omega) (by omega) (by omega) | exact tp_1 (by omega) (by omega) (by omega), by first | exact TS_0 (by decide) | exact TS_8 (by assumption) (by first | exact (if_neg (by omega)).symm | exact (if_pos (by omega)).symm)⟩⟩
              · try simp only [Int32.lt_iff_toInt_lt, Int32.le_iff_toInt_le, ← Int32.toInt_inj, Int32.toInt_toInt64, tiA, tlA] at c42
                subst hp
                exact ⟨⟨hI, hKr⟩, ⟨by first | exact tp_n (by omega) | exact tp_b (by omega) (by omega) | exact tp_s (by omega) (by omega) (by omega) | exact tp_1 (by omega) (by omega) (by omega), by first | exact TS_0 (by decide) | exact TS_8 (by assumption) (by first | exact (if_neg (by omega)).symm | exact (if_pos (by omega)).symm)⟩⟩
          · try simp only [Int32.lt_iff_toInt_lt, Int32.le_iff_toInt_le, ← Int32.toInt_inj, Int32.toInt_toInt64, tiA, tlA] at c30
            subst hp
            exact ⟨⟨hI, hKr⟩, ⟨by first | exact tp_n (by omega) | exact tp_b (by omega) (by omega) | exact tp_s (by omega) (by omega) (by omega) | exact tp_1 (by omega) (by omega) (by omega), by first | exact TS_0 (by decide) | exact TS_8 (by assumption) (by first | exact (if_neg (by omega)).symm | exact (if_pos (by omega)).symm)⟩⟩
      · try simp only [Int32.lt_iff_toInt_lt, Int32.le_iff_toInt_le, ← Int32.toInt_inj, Int32.toInt_toInt64, tiA, tlA] at c16
        subst hp
        exact ⟨⟨hI, hKr⟩, ⟨by first | exact tp_n (by omega) | exact tp_b (by omega) (by omega) | exact tp_s (by omega) (by omega) (by omega) | exact tp_1 (by omega) (by omega) (by omega), by first | exact TS_0 (by decide) | exact TS_8 (by assumption) (by first | exact (if_neg (by omega)).symm | exact (if_pos (by omega)).symm)⟩⟩
  · try simp only [Int32.lt_iff_toInt_lt, Int32.le_iff_toInt_le, ← Int32.toInt_inj, Int32.toInt_toInt64, tiA, tlA] at c4
    subst hp
    exact ⟨⟨hI, hKr⟩, ⟨by first | exact tp_n (by omega) | exact tp_b (by omega) (by omega) | exact tp_s (by omega) (by omega) (by omega) | exact tp_1 (by omega) (by omega) (by omega), by first | exact TS_0 (by decide) | exact TS_8 (by assumption) (by first | exact (if_neg (by omega)).symm | exact (if_pos (by omega)).symm)⟩⟩
set_option maxRecDepth 100000 in
theorem t_X9_tape (a1 : Int32) (a2 : Int32) (a3 : Int32) {lg0 : LGt} {it0 : ITt} (hI : I9 lg0 it0) : w_X9_tape a1 a2 a3 (fun (v : Int32) (lg' : LGt) (it' : ITt) => (I9 lg' it' ∧ Kd (fun j => j = 518 ∨ j = 519 ∨ j = 520) (fun k => False) lg0 it0 lg' it') ∧ (v = tapeA a1 a2 a3 ∧ TS v a1 a2 a3 (it0 518) (it0 519) (it' 518) (it' 519)))  lg0 it0 := by
  have hb_a1 := And.intro a1.le_toInt a1.toInt_lt
  have hb_a2 := And.intro a2.le_toInt a2.toInt_lt
  have hb_a3 := And.intro a3.le_toInt a3.toInt_lt
  have hKr : Kd (fun j => j = 518 ∨ j = 519 ∨ j = 520) (fun k => False) lg0 it0 lg0 it0 := kd_r
  generalize hp : (fun (v : Int32) (lg' : LGt) (it' : ITt) => (I9 lg' it' ∧ Kd (fun j => j = 518 ∨ j = 519 ∨ j = 520) (fun k => False) lg0 it0 lg' it') ∧ (v = tapeA a1 a2 a3 ∧ TS v a1 a2 a3 (it0 518) (it0 519) (it' 518) (it' 519))) = Pz
  unfold w_X9_tape
  have t0 := ti_0
  have t9 := ti_9
  have tm1 := ti_m1
  refine ⟨fun c4 => ?_, fun c4 => ?_⟩
  · try simp only [Int32.lt_iff_toInt_lt, Int32.le_iff_toInt_le, ← Int32.toInt_inj, Int32.toInt_toInt64, tiA, tlA] at c4
    refine ⟨fun c20 => ?_, fun c20 => ?_⟩
    · try simp only [Int32.lt_iff_toInt_lt, Int32.le_iff_toInt_le, ← Int32.toInt_inj, Int32.toInt_toInt64, tiA, tlA] at c20
      subst hp
      exact ⟨⟨hI, hKr⟩, ⟨by first | exact tp_n (by omega) | exact tp_b (by omega) (by omega) | exact tp_s (by omega) (by omega) (by omega) | exact tp_1 (by omega) (by omega) (by omega), by first | exact TS_0 (by decide) | assumption⟩⟩
    · try simp only [Int32.lt_iff_toInt_lt, Int32.le_iff_toInt_le, ← Int32.toInt_inj, Int32.toInt_toInt64, tiA, tlA] at c20
      refine ⟨fun c24 => ?_, fun c24 => ?_⟩
      · try simp only [Int32.lt_iff_toInt_lt, Int32.le_iff_toInt_le, ← Int32.toInt_inj, Int32.toInt_toInt64, tiA, tlA] at c24
        unfold w_X9_tape_b36
        refine ⟨fun c37 => ?_, fun c37 => ?_⟩
        · try simp only [Int32.lt_iff_toInt_lt, Int32.le_iff_toInt_le, ← Int32.toInt_inj, Int32.toInt_toInt64, tiA, tlA] at c37
          unfold w_X9_tape_b47
          have hi29 : vp_in a1 6 := vp_of (by first | omega | ((try simp only [Int32.lt_iff_toInt_lt, Int32.le_iff_toInt_le, ← Int32.toInt_inj, Int32.toInt_toInt64, tiA, tlA]); omega) | (split <;> omega)) (by first | omega | ((try simp only [Int32.lt_iff_toInt_lt, Int32.le_iff_toInt_le, ← Int32.toInt_inj, Int32.toInt_toInt64, tiA, tlA]); omega) | (split <;> omega))
          refine ⟨hi29, ?_⟩
          have hz30 := vlt hi29
          intro it31 em32
          have hI33 : I9 lg0 it31 := by rw [em32]; exact i9_u hI (ok9_n rfl) (by decide) (fun q => absurd q (by decide))
          have hK34 : Kd (fun j => j = 518 ∨ j = 519 ∨ j = 520) (fun k => False) lg0 it0 lg0 it31 := by rw [em32]; exact kd_ur (by decide) (by first | decide | (dsimp only; decide) | omega | (dsimp only; omega)) hKr
          refine ⟨fun c60 => ?_, fun c60 => ?_⟩
          · try simp only [Int32.lt_iff_toInt_lt, Int32.le_iff_toInt_le, ← Int32.toInt_inj, Int32.toInt_toInt64, tiA, tlA] at c60
            have hi35 : vp_in a1 6 := vp_of (by first | omega | ((try simp only [Int32.lt_iff_toInt_lt, Int32.le_iff_toInt_le, ← Int32.toInt_inj, Int32.toInt_toInt64, tiA, tlA]); omega) | (split <;> omega)) (by first | omega | ((try simp only [Int32.lt_iff_toInt_lt, Int32.le_iff_toInt_le, ← Int32.toInt_inj, Int32.toInt_toInt64, tiA, tlA]); omega) | (split <;> omega))
            refine ⟨hi35, ?_⟩
            have hz36 := vlt hi35
            intro it37 em38
            have hI39 : I9 lg0 it37 := by rw [em38]; exact i9_u hI33 (ok9_b (a := 0) (b := 60) rfl (by first | decide | ((try simp only [Int32.lt_iff_toInt_lt, Int32.le_iff_toInt_le, ← Int32.toInt_inj, Int32.toInt_toInt64, tiA, tlA]); omega) | (split <;> (try simp only [Int32.lt_iff_toInt_lt, Int32.le_iff_toInt_le, ← Int32.toInt_inj, Int32.toInt_toInt64, tiA, tlA]) <;> omega))) (by decide) (fun q => absurd q (by decide))
            have hK40 : Kd (fun j => j = 518 ∨ j = 519 ∨ j = 520) (fun k => False) lg0 it0 lg0 it37 := by rw [em38]; exact kd_ur (by decide) (by first | decide | (dsimp only; decide) | omega | (dsimp only; omega)) hK34
            have lp72 : ∀ (n : Nat) (x4 : Int32) (lg : LGt) (it : ITt), I9 lg it → Kd (fun j => j = 518 ∨ j = 519 ∨ j = 520) (fun k => False) lg0 it0 lg it → ((0 ≤ (x4).toInt) ∧ (TS 1 a1 a2 a3 (it0 518) (it0 519) (it 518) (it 519))) → (61 - (x4).toInt).toNat < n → w_X9_tape_b72 a1 a2 a3 Pz  n x4 lg it := by
              intro n72
              induction n72 with
              | zero => intro x4 lg it _ _ _ hn; exact absurd hn (Nat.not_lt_zero _)
              | succ n72 ih72 =>
                intro x4 lg43 it44 hI41 hK42 hv hn
                unfold w_X9_tape_b72
                obtain ⟨hv72_0, hv72_1⟩ := hv
                refine ⟨fun c76 => ?_, fun c76 => ?_⟩
                · try simp only [Int32.lt_iff_toInt_lt, Int32.le_iff_toInt_le, ← Int32.toInt_inj, Int32.toInt_toInt64, tiA, tlA] at c76
                  subst hp
                  exact ⟨⟨hI41, hK42⟩, ⟨by first | exact tp_n (by omega) | exact tp_b (by omega) (by omega) | exact tp_s (by omega) (by omega) (by omega) | exact tp_1 (by omega) (by omega) (by omega), by first | exact TS_0 (by decide) | assumption⟩⟩
                · try simp only [Int32.lt_iff_toInt_lt, Int32.le_iff_toInt_le, ← Int32.toInt_inj, Int32.toInt_toInt64, tiA, tlA] at c76
                  try have f45 : ((60 * a1) : Int32).toInt = 60 * (a1).toInt := ml32 (a := 60) (b := (a1).toInt) (ti_60) (rfl) (by omega) (by omega)
                  try have f46 : (((60 * a1) + x4) : Int32).toInt = ((60 * a1)).toInt + (x4).toInt := ad32 (a := ((60 * a1)).toInt) (b := (x4).toInt) (rfl) (rfl) (by omega) (by omega)
                  have hi47 : vp_in ((60 * a1) + x4) 360 := vp_of (by first | omega | ((try simp only [Int32.lt_iff_toInt_lt, Int32.le_iff_toInt_le, ← Int32.toInt_inj, Int32.toInt_toInt64, tiA, tlA]); omega) | (split <;> omega)) (by first | omega | ((try simp only [Int32.lt_iff_toInt_lt, Int32.le_iff_toInt_le, ← Int32.toInt_inj, Int32.toInt_toInt64, tiA, tlA]); omega) | (split <;> omega))
                  refine ⟨hi47, ?_⟩
                  have hz48 := vlt hi47
                  intro lg49 em50
                  have hI51 : I9 lg49 it44 := by rw [em50]; exact i9_l hI41 (by decide) (by decide) (by decide)
                  have hK52 : Kd (fun j => j = 518 ∨ j = 519 ∨ j = 520) (fun k => False) lg0 it0 lg49 it44 := by rw [em50]; exact kd_lr (by decide) (by first | decide | (dsimp only; decide) | omega | (dsimp only; omega)) hK42
                  try have f53 : ((x4 + 1) : Int32).toInt = (x4).toInt + 1 := ad32 (a := (x4).toInt) (b := 1) (rfl) (ti_1) (by omega) (by omega)
                  exact ih72 ((x4 + 1)) _ _ hI51 hK52 ⟨by omega, hv72_1⟩ (by omega)
            have t54 := ti_0
            exact ⟨_, lp72 ((61 - ((0 : Int32)).toInt).toNat + 1) ((0 : Int32)) _ _ hI39 hK40 ⟨by omega, TS_9 (by assumption) (by assumption) (by first | exact (if_neg (by omega)).symm | exact (if_pos (by omega)).symm)⟩ (Nat.lt_succ_self _)⟩
          · try simp only [Int32.lt_iff_toInt_lt, Int32.le_iff_toInt_le, ← Int32.toInt_inj, Int32.toInt_toInt64, tiA, tlA] at c60
            have hi55 : vp_in a1 6 := vp_of (by first | omega | ((try simp only [Int32.lt_iff_toInt_lt, Int32.le_iff_toInt_le, ← Int32.toInt_inj, Int32.toInt_toInt64, tiA, tlA]); omega) | (split <;> omega)) (by first | omega | ((try simp only [Int32.lt_iff_toInt_lt, Int32.le_iff_toInt_le, ← Int32.toInt_inj, Int32.toInt_toInt64, tiA, tlA]); omega) | (split <;> omega))
            refine ⟨hi55, ?_⟩
            have hz56 := vlt hi55
            intro it57 em58
            have hI59 : I9 lg0 it57 := by rw [em58]; exact i9_u hI33 (ok9_b (a := 0) (b := 60) rfl (by first | decide | ((try simp only [Int32.lt_iff_toInt_lt, Int32.le_iff_toInt_le, ← Int32.toInt_inj, Int32.toInt_toInt64, tiA, tlA]); omega) | (split <;> (try simp only [Int32.lt_iff_toInt_lt, Int32.le_iff_toInt_le, ← Int32.toInt_inj, Int32.toInt_toInt64, tiA, tlA]) <;> omega))) (by decide) (fun q => absurd q (by decide))
            have hK60 : Kd (fun j => j = 518 ∨ j = 519 ∨ j = 520) (fun k => False) lg0 it0 lg0 it57 := by rw [em58]; exact kd_ur (by decide) (by first | decide | (dsimp only; decide) | omega | (dsimp only; omega)) hK34
            have lp72 : ∀ (n : Nat) (x4 : Int32) (lg : LGt) (it : ITt), I9 lg it → Kd (fun j => j = 518 ∨ j = 519 ∨ j = 520) (fun k => False) lg0 it0 lg it → ((0 ≤ (x4).toInt) ∧ (TS 1 a1 a2 a3 (it0 518) (it0 519) (it 518) (it 519))) → (61 - (x4).toInt).toNat < n → w_X9_tape_b72 a1 a2 a3 Pz  n x4 lg it := by
              intro n72
              induction n72 with
              | zero => intro x4 lg it _ _ _ hn; exact absurd hn (Nat.not_lt_zero _)
              | succ n72 ih72 =>
                intro x4 lg63 it64 hI61 hK62 hv hn
                unfold w_X9_tape_b72
                obtain ⟨hv72_0, hv72_1⟩ := hv
                refine ⟨fun c76 => ?_, fun c76 => ?_⟩
                · try simp only [Int32.lt_iff_toInt_lt, Int32.le_iff_toInt_le, ← Int32.toInt_inj, Int32.toInt_toInt64, tiA, tlA] at c76
                  subst hp
                  exact ⟨⟨hI61, hK62⟩, ⟨by first | exact tp_n (by omega) | exact tp_b (by omega) (by omega) | exact tp_s (by omega) (by omega) (by omega) | exact tp_1 (by omega) (by omega) (by omega), by first | exact TS_0 (by decide) | assumption⟩⟩
                · try simp only [Int32.lt_iff_toInt_lt, Int32.le_iff_toInt_le, ← Int32.toInt_inj, Int32.toInt_toInt64, tiA, tlA] at c76
                  try have f65 : ((60 * a1) : Int32).toInt = 60 * (a1).toInt := ml32 (a := 60) (b := (a1).toInt) (ti_60) (rfl) (by omega) (by omega)
                  try have f66 : (((60 * a1) + x4) : Int32).toInt = ((60 * a1)).toInt + (x4).toInt := ad32 (a := ((60 * a1)).toInt) (b := (x4).toInt) (rfl) (rfl) (by omega) (by omega)
                  have hi67 : vp_in ((60 * a1) + x4) 360 := vp_of (by first | omega | ((try simp only [Int32.lt_iff_toInt_lt, Int32.le_iff_toInt_le, ← Int32.toInt_inj, Int32.toInt_toInt64, tiA, tlA]); omega) | (split <;> omega)) (by first | omega | ((try simp only [Int32.lt_iff_toInt_lt, Int32.le_iff_toInt_le, ← Int32.toInt_inj, Int32.toInt_toInt64, tiA, tlA]); omega) | (split <;> omega))
                  refine ⟨hi67, ?_⟩
                  have hz68 := vlt hi67
                  intro lg69 em70
                  have hI71 : I9 lg69 it64 := by rw [em70]; exact i9_l hI61 (by decide) (by decide) (by decide)
                  have hK72 : Kd (fun j => j = 518 ∨ j = 519 ∨ j = 520) (fun k => False) lg0 it0 lg69 it64 := by rw [em70]; exact kd_lr (by decide) (by first | decide | (dsimp only; decide) | omega | (dsimp only; omega)) hK62
                  try have f73 : ((x4 + 1) : Int32).toInt = (x4).toInt + 1 := ad32 (a := (x4).toInt) (b := 1) (rfl) (ti_1) (by omega) (by omega)
                  exact ih72 ((x4 + 1)) _ _ hI71 hK72 ⟨by omega, hv72_1⟩ (by omega)
            have t74 := ti_0
            exact ⟨_, lp72 ((61 - ((0 : Int32)).toInt).toNat + 1) ((0 : Int32)) _ _ hI59 hK60 ⟨by omega, TS_9 (by assumption) (by assumption) (by first | exact (if_neg (by omega)).symm | exact (if_pos (by omega)).symm)⟩ (Nat.lt_succ_self _)⟩
        · try simp only [Int32.lt_iff_toInt_lt, Int32.le_iff_toInt_le, ← Int32.toInt_inj, Int32.toInt_toInt64, tiA, tlA] at c37
          refine ⟨fun c41 => ?_, fun c41 => ?_⟩
          · try simp only [Int32.lt_iff_toInt_lt, Int32.le_iff_toInt_le, ← Int32.toInt_inj, Int32.toInt_toInt64, tiA, tlA] at c41
            unfold w_X9_tape_b47
            have hi75 : vp_in a1 6 := vp_of (by first | omega | ((try simp only [Int32.lt_iff_toInt_lt, Int32.le_iff_toInt_le, ← Int32.toInt_inj, Int32.toInt_toInt64, tiA, tlA]); omega) | (split <;> omega)) (by first | omega | ((try simp only [Int32.lt_iff_toInt_lt, Int32.le_iff_toInt_le, ← Int32.toInt_inj, Int32.toInt_toInt64, tiA, tlA]); omega) | (split <;> omega))
            refine ⟨hi75, ?_⟩
            have hz76 := vlt hi75
            intro it77 em78
            have hI79 : I9 lg0 it77 := by rw [em78]; exact i9_u hI (ok9_n rfl) (by decide) (fun q => absurd q (by decide))
            have hK80 : Kd (fun j => j = 518 ∨ j = 519 ∨ j = 520) (fun k => False) lg0 it0 lg0 it77 := by rw [em78]; exact kd_ur (by decide) (by first | decide | (dsimp only; decide) | omega | (dsimp only; omega)) hKr
            refine ⟨fun c60 => ?_, fun c60 => ?_⟩
            · try simp only [Int32.lt_iff_toInt_lt, Int32.le_iff_toInt_le, ← Int32.toInt_inj, Int32.toInt_toInt64, tiA, tlA] at c60
              have hi81 : vp_in a1 6 := vp_of (by first | omega | ((try simp only [Int32.lt_iff_toInt_lt, Int32.le_iff_toInt_le, ← Int32.toInt_inj, Int32.toInt_toInt64, tiA, tlA]); omega) | (split <;> omega)) (by first | omega | ((try simp only [Int32.lt_iff_toInt_lt, Int32.le_iff_toInt_le, ← Int32.toInt_inj, Int32.toInt_toInt64, tiA, tlA]); omega) | (split <;> omega))
              refine ⟨hi81, ?_⟩
              have hz82 := vlt hi81
              intro it83 em84
              have hI85 : I9 lg0 it83 := by rw [em84]; exact i9_u hI79 (ok9_b (a := 0) (b := 60) rfl (by first | decide | ((try simp only [Int32.lt_iff_toInt_lt, Int32.le_iff_toInt_le, ← Int32.toInt_inj, Int32.toInt_toInt64, tiA, tlA]); omega) | (split <;> (try simp only [Int32.lt_iff_toInt_lt, Int32.le_iff_toInt_le, ← Int32.toInt_inj, Int32.toInt_toInt64, tiA, tlA]) <;> omega))) (by decide) (fun q => absurd q (by decide))
              have hK86 : Kd (fun j => j = 518 ∨ j = 519 ∨ j = 520) (fun k => False) lg0 it0 lg0 it83 := by rw [em84]; exact kd_ur (by decide) (by first | decide | (dsimp only; decide) | omega | (dsimp only; omega)) hK80
              have lp72 : ∀ (n : Nat) (x4 : Int32) (lg : LGt) (it : ITt), I9 lg it → Kd (fun j => j = 518 ∨ j = 519 ∨ j = 520) (fun k => False) lg0 it0 lg it → ((0 ≤ (x4).toInt) ∧ (TS 1 a1 a2 a3 (it0 518) (it0 519) (it 518) (it 519))) → (61 - (x4).toInt).toNat < n → w_X9_tape_b72 a1 a2 a3 Pz  n x4 lg it := by
                intro n72
                induction n72 with
                | zero => intro x4 lg it _ _ _ hn; exact absurd hn (Nat.not_lt_zero _)
                | succ n72 ih72 =>
                  intro x4 lg89 it90 hI87 hK88 hv hn
                  unfold w_X9_tape_b72
                  obtain ⟨hv72_0, hv72_1⟩ := hv
                  refine ⟨fun c76 => ?_, fun c76 => ?_⟩
                  · try simp only [Int32.lt_iff_toInt_lt, Int32.le_iff_toInt_le, ← Int32.toInt_inj, Int32.toInt_toInt64, tiA, tlA] at c76
                    subst hp
                    exact ⟨⟨hI87, hK88⟩, ⟨by first | exact tp_n (by omega) | exact tp_b (by omega) (by omega) | exact tp_s (by omega) (by omega) (by omega) | exact tp_1 (by omega) (by omega) (by omega), by first | exact TS_0 (by decide) | assumption⟩⟩
                  · try simp only [Int32.lt_iff_toInt_lt, Int32.le_iff_toInt_le, ← Int32.toInt_inj, Int32.toInt_toInt64, tiA, tlA] at c76
                    try have f91 : ((60 * a1) : Int32).toInt = 60 * (a1).toInt := ml32 (a := 60) (b := (a1).toInt) (ti_60) (rfl) (by omega) (by omega)
                    try have f92 : (((60 * a1) + x4) : Int32).toInt = ((60 * a1)).toInt + (x4).toInt := ad32 (a := ((60 * a1)).toInt) (b := (x4).toInt) (rfl) (rfl) (by omega) (by omega)
                    have hi93 : vp_in ((60 * a1) + x4) 360 := vp_of (by first | omega | ((try simp only [Int32.lt_iff_toInt_lt, Int32.le_iff_toInt_le, ← Int32.toInt_inj, Int32.toInt_toInt64, tiA, tlA]); omega) | (split <;> omega)) (by first | omega | ((try simp only [Int32.lt_iff_toInt_lt, Int32.le_iff_toInt_le, ← Int32.toInt_inj, Int32.toInt_toInt64, tiA, tlA]); omega) | (split <;> omega))
                    refine ⟨hi93, ?_⟩
                    have hz94 := vlt hi93
                    intro lg95 em96
                    have hI97 : I9 lg95 it90 := by rw [em96]; exact i9_l hI87 (by decide) (by decide) (by decide)
                    have hK98 : Kd (fun j => j = 518 ∨ j = 519 ∨ j = 520) (fun k => False) lg0 it0 lg95 it90 := by rw [em96]; exact kd_lr (by decide) (by first | decide | (dsimp only; decide) | omega | (dsimp only; omega)) hK88
                    try have f99 : ((x4 + 1) : Int32).toInt = (x4).toInt + 1 := ad32 (a := (x4).toInt) (b := 1) (rfl) (ti_1) (by omega) (by omega)
                    exact ih72 ((x4 + 1)) _ _ hI97 hK98 ⟨by omega, hv72_1⟩ (by omega)
              have t100 := ti_0
              exact ⟨_, lp72 ((61 - ((0 : Int32)).toInt).toNat + 1) ((0 : Int32)) _ _ hI85 hK86 ⟨by omega, TS_9 (by assumption) (by assumption) (by first | exact (if_neg (by omega)).symm | exact (if_pos (by omega)).symm)⟩ (Nat.lt_succ_self _)⟩
            · try simp only [Int32.lt_iff_toInt_lt, Int32.le_iff_toInt_le, ← Int32.toInt_inj, Int32.toInt_toInt64, tiA, tlA] at c60
              have hi101 : vp_in a1 6 := vp_of (by first | omega | ((try simp only [Int32.lt_iff_toInt_lt, Int32.le_iff_toInt_le, ← Int32.toInt_inj, Int32.toInt_toInt64, tiA, tlA]); omega) | (split <;> omega)) (by first | omega | ((try simp only [Int32.lt_iff_toInt_lt, Int32.le_iff_toInt_le, ← Int32.toInt_inj, Int32.toInt_toInt64, tiA, tlA]); omega) | (split <;> omega))
              refine ⟨hi101, ?_⟩
              have hz102 := vlt hi101
              intro it103 em104
              have hI105 : I9 lg0 it103 := by rw [em104]; exact i9_u hI79 (ok9_b (a := 0) (b := 60) rfl (by first | decide | ((try simp only [Int32.lt_iff_toInt_lt, Int32.le_iff_toInt_le, ← Int32.toInt_inj, Int32.toInt_toInt64, tiA, tlA]); omega) | (split <;> (try simp only [Int32.lt_iff_toInt_lt, Int32.le_iff_toInt_le, ← Int32.toInt_inj, Int32.toInt_toInt64, tiA, tlA]) <;> omega))) (by decide) (fun q => absurd q (by decide))
              have hK106 : Kd (fun j => j = 518 ∨ j = 519 ∨ j = 520) (fun k => False) lg0 it0 lg0 it103 := by rw [em104]; exact kd_ur (by decide) (by first | decide | (dsimp only; decide) | omega | (dsimp only; omega)) hK80
              have lp72 : ∀ (n : Nat) (x4 : Int32) (lg : LGt) (it : ITt), I9 lg it → Kd (fun j => j = 518 ∨ j = 519 ∨ j = 520) (fun k => False) lg0 it0 lg it → ((0 ≤ (x4).toInt) ∧ (TS 1 a1 a2 a3 (it0 518) (it0 519) (it 518) (it 519))) → (61 - (x4).toInt).toNat < n → w_X9_tape_b72 a1 a2 a3 Pz  n x4 lg it := by
                intro n72
                induction n72 with
                | zero => intro x4 lg it _ _ _ hn; exact absurd hn (Nat.not_lt_zero _)
                | succ n72 ih72 =>
                  intro x4 lg109 it110 hI107 hK108 hv hn
                  unfold w_X9_tape_b72
                  obtain ⟨hv72_0, hv72_1⟩ := hv
                  refine ⟨fun c76 => ?_, fun c76 => ?_⟩
                  · try simp only [Int32.lt_iff_toInt_lt, Int32.le_iff_toInt_le, ← Int32.toInt_inj, Int32.toInt_toInt64, tiA, tlA] at c76
                    subst hp
                    exact ⟨⟨hI107, hK108⟩, ⟨by first | exact tp_n (by omega) | exact tp_b (by omega) (by omega) | exact tp_s (by omega) (by omega) (by omega) | exact tp_1 (by omega) (by omega) (by omega), by first | exact TS_0 (by decide) | assumption⟩⟩
                  · try simp only [Int32.lt_iff_toInt_lt, Int32.le_iff_toInt_le, ← Int32.toInt_inj, Int32.toInt_toInt64, tiA, tlA] at c76
                    try have f111 : ((60 * a1) : Int32).toInt = 60 * (a1).toInt := ml32 (a := 60) (b := (a1).toInt) (ti_60) (rfl) (by omega) (by omega)
                    try have f112 : (((60 * a1) + x4) : Int32).toInt = ((60 * a1)).toInt + (x4).toInt := ad32 (a := ((60 * a1)).toInt) (b := (x4).toInt) (rfl) (rfl) (by omega) (by omega)
                    have hi113 : vp_in ((60 * a1) + x4) 360 := vp_of (by first | omega | ((try simp only [Int32.lt_iff_toInt_lt, Int32.le_iff_toInt_le, ← Int32.toInt_inj, Int32.toInt_toInt64, tiA, tlA]); omega) | (split <;> omega)) (by first | omega | ((try simp only [Int32.lt_iff_toInt_lt, Int32.le_iff_toInt_le, ← Int32.toInt_inj, Int32.toInt_toInt64, tiA, tlA]); omega) | (split <;> omega))
                    refine ⟨hi113, ?_⟩
                    have hz114 := vlt hi113
                    intro lg115 em116
                    have hI117 : I9 lg115 it110 := by rw [em116]; exact i9_l hI107 (by decide) (by decide) (by decide)
                    have hK118 : Kd (fun j => j = 518 ∨ j = 519 ∨ j = 520) (fun k => False) lg0 it0 lg115 it110 := by rw [em116]; exact kd_lr (by decide) (by first | decide | (dsimp only; decide) | omega | (dsimp only; omega)) hK108
                    try have f119 : ((x4 + 1) : Int32).toInt = (x4).toInt + 1 := ad32 (a := (x4).toInt) (b := 1) (rfl) (ti_1) (by omega) (by omega)
                    exact ih72 ((x4 + 1)) _ _ hI117 hK118 ⟨by omega, hv72_1⟩ (by omega)
              have t120 := ti_0
              exact ⟨_, lp72 ((61 - ((0 : Int32)).toInt).toNat + 1) ((0 : Int32)) _ _ hI105 hK106 ⟨by omega, TS_9 (by assumption) (by assumption) (by first | exact (if_neg (by omega)).symm | exact (if_pos (by omega)).symm)⟩ (Nat.lt_succ_self _)⟩
          · try simp only [Int32.lt_iff_toInt_lt, Int32.le_iff_toInt_le, ← Int32.toInt_inj, Int32.toInt_toInt64, tiA, tlA] at c41
            subst hp
            exact ⟨⟨hI, hKr⟩, ⟨by first | exact tp_n (by omega) | exact tp_b (by omega) (by omega) | exact tp_s (by omega) (by omega) (by omega) | exact tp_1 (by omega) (by omega) (by omega), by first | exact TS_0 (by decide) | assumption⟩⟩
      · try simp only [Int32.lt_iff_toInt_lt, Int32.le_iff_toInt_le, ← Int32.toInt_inj, Int32.toInt_toInt64, tiA, tlA] at c24
        refine ⟨fun c30 => ?_, fun c30 => ?_⟩
        · try simp only [Int32.lt_iff_toInt_lt, Int32.le_iff_toInt_le, ← Int32.toInt_inj, Int32.toInt_toInt64, tiA, tlA] at c30
          unfold w_X9_tape_b36
          refine ⟨fun c37 => ?_, fun c37 => ?_⟩
          · try simp only [Int32.lt_iff_toInt_lt, Int32.le_iff_toInt_le, ← Int32.toInt_inj, Int32.toInt_toInt64, tiA, tlA] at c37
            unfold w_X9_tape_b47
            have hi121 : vp_in a1 6 := vp_of (by first | omega | ((try simp only [Int32.lt_iff_toInt_lt, Int32.le_iff_toInt_le, ← Int32.toInt_inj, Int32.toInt_toInt64, tiA, tlA]); omega) | (split <;> omega)) (by first | omega | ((try simp only [Int32.lt_iff_toInt_lt, Int32.le_iff_toInt_le, ← Int32.toInt_inj, Int32.toInt_toInt64, tiA, tlA]); omega) | (split <;> omega))
            refine ⟨hi121, ?_⟩
            have hz122 := vlt hi121
            intro it123 em124
            have hI125 : I9 lg0 it123 := by rw [em124]; exact i9_u hI (ok9_n rfl) (by decide) (fun q => absurd q (by decide))
            have hK126 : Kd (fun j => j = 518 ∨ j = 519 ∨ j = 520) (fun k => False) lg0 it0 lg0 it123 := by rw [em124]; exact kd_ur (by decide) (by first | decide | (dsimp only; decide) | omega | (dsimp only; omega)) hKr
            refine ⟨fun c60 => ?_, fun c60 => ?_⟩
            · try simp only [Int32.lt_iff_toInt_lt, Int32.le_iff_toInt_le, ← Int32.toInt_inj, Int32.toInt_toInt64, tiA, tlA] at c60
              have hi127 : vp_in a1 6 := vp_of (by first | omega | ((try simp only [Int32.lt_iff_toInt_lt, Int32.le_iff_toInt_le, ← Int32.toInt_inj, Int32.toInt_toInt64, tiA, tlA]); omega) | (split <;> omega)) (by first | omega | ((try simp only [Int32.lt_iff_toInt_lt, Int32.le_iff_toInt_le, ← Int32.toInt_inj, Int32.toInt_toInt64, tiA, tlA]); omega) | (split <;> omega))
              refine ⟨hi127, ?_⟩
              have hz128 := vlt hi127
              intro it129 em130
              have hI131 : I9 lg0 it129 := by rw [em130]; exact i9_u hI125 (ok9_b (a := 0) (b := 60) rfl (by first | decide | ((try simp only [Int32.lt_iff_toInt_lt, Int32.le_iff_toInt_le, ← Int32.toInt_inj, Int32.toInt_toInt64, tiA, tlA]); omega) | (split <;> (try simp only [Int32.lt_iff_toInt_lt, Int32.le_iff_toInt_le, ← Int32.toInt_inj, Int32.toInt_toInt64, tiA, tlA]) <;> omega))) (by decide) (fun q => absurd q (by decide))
              have hK132 : Kd (fun j => j = 518 ∨ j = 519 ∨ j = 520) (fun k => False) lg0 it0 lg0 it129 := by rw [em130]; exact kd_ur (by decide) (by first | decide | (dsimp only; decide) | omega | (dsimp only; omega)) hK126
              have lp72 : ∀ (n : Nat) (x4 : Int32) (lg : LGt) (it : ITt), I9 lg it → Kd (fun j => j = 518 ∨ j = 519 ∨ j = 520) (fun k => False) lg0 it0 lg it → ((0 ≤ (x4).toInt) ∧ (TS 1 a1 a2 a3 (it0 518) (it0 519) (it 518) (it 519))) → (61 - (x4).toInt).toNat < n → w_X9_tape_b72 a1 a2 a3 Pz  n x4 lg it := by
                intro n72
                induction n72 with
                | zero => intro x4 lg it _ _ _ hn; exact absurd hn (Nat.not_lt_zero _)
                | succ n72 ih72 =>
                  intro x4 lg135 it136 hI133 hK134 hv hn
                  unfold w_X9_tape_b72
                  obtain ⟨hv72_0, hv72_1⟩ := hv
                  refine ⟨fun c76 => ?_, fun c76 => ?_⟩
                  · try simp only [Int32.lt_iff_toInt_lt, Int32.le_iff_toInt_le, ← Int32.toInt_inj, Int32.toInt_toInt64, tiA, tlA] at c76
                    subst hp
                    exact ⟨⟨hI133, hK134⟩, ⟨by first | exact tp_n (by omega) | exact tp_b (by omega) (by omega) | exact tp_s (by omega) (by omega) (by omega) | exact tp_1 (by omega) (by omega) (by omega), by first | exact TS_0 (by decide) | assumption⟩⟩
                  · try simp only [Int32.lt_iff_toInt_lt, Int32.le_iff_toInt_le, ← Int32.toInt_inj, Int32.toInt_toInt64, tiA, tlA] at c76
                    try have f137 : ((60 * a1) : Int32).toInt = 60 * (a1).toInt := ml32 (a := 60) (b := (a1).toInt) (ti_60) (rfl) (by omega) (by omega)
                    try have f138 : (((60 * a1) + x4) : Int32).toInt = ((60 * a1)).toInt + (x4).toInt := ad32 (a := ((60 * a1)).toInt) (b := (x4).toInt) (rfl) (rfl) (by omega) (by omega)
                    have hi139 : vp_in ((60 * a1) + x4) 360 := vp_of (by first | omega | ((try simp only [Int32.lt_iff_toInt_lt, Int32.le_iff_toInt_le, ← Int32.toInt_inj, Int32.toInt_toInt64, tiA, tlA]); omega) | (split <;> omega)) (by first | omega | ((try simp only [Int32.lt_iff_toInt_lt, Int32.le_iff_toInt_le, ← Int32.toInt_inj, Int32.toInt_toInt64, tiA, tlA]); omega) | (split <;> omega))
                    refine ⟨hi139, ?_⟩
                    have hz140 := vlt hi139
                    intro lg141 em142
                    have hI143 : I9 lg141 it136 := by rw [em142]; exact i9_l hI133 (by decide) (by decide) (by decide)
                    have hK144 : Kd (fun j => j = 518 ∨ j = 519 ∨ j = 520) (fun k => False) lg0 it0 lg141 it136 := by rw [em142]; exact kd_lr (by decide) (by first | decide | (dsimp only; decide) | omega | (dsimp only; omega)) hK134
                    try have f145 : ((x4 + 1) : Int32).toInt = (x4).toInt + 1 := ad32 (a := (x4).toInt) (b := 1) (rfl) (ti_1) (by omega) (by omega)
                    exact ih72 ((x4 + 1)) _ _ hI143 hK144 ⟨by omega, hv72_1⟩ (by omega)
              have t146 := ti_0
              exact ⟨_, lp72 ((61 - ((0 : Int32)).toInt).toNat + 1) ((0 : Int32)) _ _ hI131 hK132 ⟨by omega, TS_9 (by assumption) (by assumption) (by first | exact (if_neg (by omega)).symm | exact (if_pos (by omega)).symm)⟩ (Nat.lt_succ_self _)⟩
            · try simp only [Int32.lt_iff_toInt_lt, Int32.le_iff_toInt_le, ← Int32.toInt_inj, Int32.toInt_toInt64, tiA, tlA] at c60
              have hi147 : vp_in a1 6 := vp_of (by first | omega | ((try simp only [Int32.lt_iff_toInt_lt, Int32.le_iff_toInt_le, ← Int32.toInt_inj, Int32.toInt_toInt64, tiA, tlA]); omega) | (split <;> omega)) (by first | omega | ((try simp only [Int32.lt_iff_toInt_lt, Int32.le_iff_toInt_le, ← Int32.toInt_inj, Int32.toInt_toInt64, tiA, tlA]); omega) | (split <;> omega))
              refine ⟨hi147, ?_⟩
              have hz148 := vlt hi147
              intro it149 em150
              have hI151 : I9 lg0 it149 := by rw [em150]; exact i9_u hI125 (ok9_b (a := 0) (b := 60) rfl (by first | decide | ((try simp only [Int32.lt_iff_toInt_lt, Int32.le_iff_toInt_le, ← Int32.toInt_inj, Int32.toInt_toInt64, tiA, tlA]); omega) | (split <;> (try simp only [Int32.lt_iff_toInt_lt, Int32.le_iff_toInt_le, ← Int32.toInt_inj, Int32.toInt_toInt64, tiA, tlA]) <;> omega))) (by decide) (fun q => absurd q (by decide))
              have hK152 : Kd (fun j => j = 518 ∨ j = 519 ∨ j = 520) (fun k => False) lg0 it0 lg0 it149 := by rw [em150]; exact kd_ur (by decide) (by first | decide | (dsimp only; decide) | omega | (dsimp only; omega)) hK126
              have lp72 : ∀ (n : Nat) (x4 : Int32) (lg : LGt) (it : ITt), I9 lg it → Kd (fun j => j = 518 ∨ j = 519 ∨ j = 520) (fun k => False) lg0 it0 lg it → ((0 ≤ (x4).toInt) ∧ (TS 1 a1 a2 a3 (it0 518) (it0 519) (it 518) (it 519))) → (61 - (x4).toInt).toNat < n → w_X9_tape_b72 a1 a2 a3 Pz  n x4 lg it := by
                intro n72
                induction n72 with
                | zero => intro x4 lg it _ _ _ hn; exact absurd hn (Nat.not_lt_zero _)
                | succ n72 ih72 =>
                  intro x4 lg155 it156 hI153 hK154 hv hn
                  unfold w_X9_tape_b72
                  obtain ⟨hv72_0, hv72_1⟩ := hv
                  refine ⟨fun c76 => ?_, fun c76 => ?_⟩
                  · try simp only [Int32.lt_iff_toInt_lt, Int32.le_iff_toInt_le, ← Int32.toInt_inj, Int32.toInt_toInt64, tiA, tlA] at c76
                    subst hp
                    exact ⟨⟨hI153, hK154⟩, ⟨by first | exact tp_n (by omega) | exact tp_b (by omega) (by omega) | exact tp_s (by omega) (by omega) (by omega) | exact tp_1 (by omega) (by omega) (by omega), by first | exact TS_0 (by decide) | assumption⟩⟩
                  · try simp only [Int32.lt_iff_toInt_lt, Int32.le_iff_toInt_le, ← Int32.toInt_inj, Int32.toInt_toInt64, tiA, tlA] at c76
                    try have f157 : ((60 * a1) : Int32).toInt = 60 * (a1).toInt := ml32 (a := 60) (b := (a1).toInt) (ti_60) (rfl) (by omega) (by omega)
                    try have f158 : (((60 * a1) + x4) : Int32).toInt = ((60 * a1)).toInt + (x4).toInt := ad32 (a := ((60 * a1)).toInt) (b := (x4).toInt) (rfl) (rfl) (by omega) (by omega)
                    have hi159 : vp_in ((60 * a1) + x4) 360 := vp_of (by first | omega | ((try simp only [Int32.lt_iff_toInt_lt, Int32.le_iff_toInt_le, ← Int32.toInt_inj, Int32.toInt_toInt64, tiA, tlA]); omega) | (split <;> omega)) (by first | omega | ((try simp only [Int32.lt_iff_toInt_lt, Int32.le_iff_toInt_le, ← Int32.toInt_inj, Int32.toInt_toInt64, tiA, tlA]); omega) | (split <;> omega))
                    refine ⟨hi159, ?_⟩
                    have hz160 := vlt hi159
                    intro lg161 em162
                    have hI163 : I9 lg161 it156 := by rw [em162]; exact i9_l hI153 (by decide) (by decide) (by decide)
                    have hK164 : Kd (fun j => j = 518 ∨ j = 519 ∨ j = 520) (fun k => False) lg0 it0 lg161 it156 := by rw [em162]; exact kd_lr (by decide) (by first | decide | (dsimp only; decide) | omega | (dsimp only; omega)) hK154
                    try have f165 : ((x4 + 1) : Int32).toInt = (x4).toInt + 1 := ad32 (a := (x4).toInt) (b := 1) (rfl) (ti_1) (by omega) (by omega)
                    exact ih72 ((x4 + 1)) _ _ hI163 hK164 ⟨by omega, hv72_1⟩ (by omega)
              have t166 := ti_0
              exact ⟨_, lp72 ((61 - ((0 : Int32)).toInt).toNat + 1) ((0 : Int32)) _ _ hI151 hK152 ⟨by omega, TS_9 (by assumption) (by assumption) (by first | exact (if_neg (by omega)).symm | exact (if_pos (by omega)).symm)⟩ (Nat.lt_succ_self _)⟩
          · try simp only [Int32.lt_iff_toInt_lt, Int32.le_iff_toInt_le, ← Int32.toInt_inj, Int32.toInt_toInt64, tiA, tlA] at c37
            refine ⟨fun c41 => ?_, fun c41 => ?_⟩
            · try simp only [Int32.lt_iff_toInt_lt, Int32.le_iff_toInt_le, ← Int32.toInt_inj, Int32.toInt_toInt64, tiA, tlA] at c41
              unfold w_X9_tape_b47
              have hi167 : vp_in a1 6 := vp_of (by first | omega | ((try simp only [Int32.lt_iff_toInt_lt, Int32.le_iff_toInt_le, ← Int32.toInt_inj, Int32.toInt_toInt64, tiA, tlA]); omega) | (split <;> omega)) (by first | omega | ((try simp only [Int32.lt_iff_toInt_lt, Int32.le_iff_toInt_le, ← Int32.toInt_inj, Int32.toInt_toInt64, tiA, tlA]); omega) | (split <;> omega))
              refine ⟨hi167, ?_⟩
              have hz168 := vlt hi167
              intro it169 em170
              have hI171 : I9 lg0 it169 := by rw [em170]; exact i9_u hI (ok9_n rfl) (by decide) (fun q => absurd q (by decide))
              have hK172 : Kd (fun j => j = 518 ∨ j = 519 ∨ j = 520) (fun k => False) lg0 it0 lg0 it169 := by rw [em170]; exact kd_ur (by decide) (by first | decide | (dsimp only; decide) | omega | (dsimp only; omega)) hKr
              refine ⟨fun c60 => ?_, fun c60 => ?_⟩
              · try simp only [Int32.lt_iff_toInt_lt, Int32.le_iff_toInt_le, ← Int32.toInt_inj, Int32.toInt_toInt64, tiA, tlA] at c60
                have hi173 : vp_in a1 6 := vp_of (by first | omega | ((try simp only [Int32.lt_iff_toInt_lt, Int32.le_iff_toInt_le, ← Int32.toInt_inj, Int32.toInt_toInt64, tiA, tlA]); omega) | (split <;> omega)) (by first | omega | ((try simp only [Int32.lt_iff_toInt_lt, Int32.le_iff_toInt_le, ← Int32.toInt_inj, Int32.toInt_toInt64, tiA, tlA]); omega) | (split <;> omega))
                refine ⟨hi173, ?_⟩
                have hz174 := vlt hi173
                intro it175 em176
                have hI177 : I9 lg0 it175 := by rw [em176]; exact i9_u hI171 (ok9_b (a := 0) (b := 60) rfl (by first | decide | ((try simp only [Int32.lt_iff_toInt_lt, Int32.le_iff_toInt_le, ← Int32.toInt_inj, Int32.toInt_toInt64, tiA, tlA]); omega) | (split <;> (try simp only [Int32.lt_iff_toInt_lt, Int32.le_iff_toInt_le, ← Int32.toInt_inj, Int32.toInt_toInt64, tiA, tlA]) <;> omega))) (by decide) (fun q => absurd q (by decide))
                have hK178 : Kd (fun j => j = 518 ∨ j = 519 ∨ j = 520) (fun k => False) lg0 it0 lg0 it175 := by rw [em176]; exact kd_ur (by decide) (by first | decide | (dsimp only; decide) | omega | (dsimp only; omega)) hK172
                have lp72 : ∀ (n : Nat) (x4 : Int32) (lg : LGt) (it : ITt), I9 lg it → Kd (fun j => j = 518 ∨ j = 519 ∨ j = 520) (fun k => False) lg0 it0 lg it → ((0 ≤ (x4).toInt) ∧ (TS 1 a1 a2 a3 (it0 518) (it0 519) (it 518) (it 519))) → (61 - (x4).toInt).toNat < n → w_X9_tape_b72 a1 a2 a3 Pz  n x4 lg it := by
                  intro n72
                  induction n72 with
                  | zero => intro x4 lg it _ _ _ hn; exact absurd hn (Nat.not_lt_zero _)
                  | succ n72 ih72 =>
                    intro x4 lg181 it182 hI179 hK180 hv hn
                    unfold w_X9_tape_b72
                    obtain ⟨hv72_0, hv72_1⟩ := hv
                    refine ⟨fun c76 => ?_, fun c76 => ?_⟩
                    · try simp only [Int32.lt_iff_toInt_lt, Int32.le_iff_toInt_le, ← Int32.toInt_inj, Int32.toInt_toInt64, tiA, tlA] at c76
                      subst hp
                      exact ⟨⟨hI179, hK180⟩, ⟨by first | exact tp_n (by omega) | exact tp_b (by omega) (by omega) | exact tp_s (by omega) (by omega) (by omega) | exact tp_1 (by omega) (by omega) (by omega), by first | exact TS_0 (by decide) | assumption⟩⟩
                    · try simp only [Int32.lt_iff_toInt_lt, Int32.le_iff_toInt_le, ← Int32.toInt_inj, Int32.toInt_toInt64, tiA, tlA] at c76
                      try have f183 : ((60 * a1) : Int32).toInt = 60 * (a1).toInt := ml32 (a := 60) (b := (a1).toInt) (ti_60) (rfl) (by omega) (by omega)
                      try have f184 : (((60 * a1) + x4) : Int32).toInt = ((60 * a1)).toInt + (x4).toInt := ad32 (a := ((60 * a1)).toInt) (b := (x4).toInt) (rfl) (rfl) (by omega) (by omega)
                      have hi185 : vp_in ((60 * a1) + x4) 360 := vp_of (by first | omega | ((try simp only [Int32.lt_iff_toInt_lt, Int32.le_iff_toInt_le, ← Int32.toInt_inj, Int32.toInt_toInt64, tiA, tlA]); omega) | (split <;> omega)) (by first | omega | ((try simp only [Int32.lt_iff_toInt_lt, Int32.le_iff_toInt_le, ← Int32.toInt_inj, Int32.toInt_toInt64, tiA, tlA]); omega) | (split <;> omega))
                      refine ⟨hi185, ?_⟩
                      have hz186 := vlt hi185
                      intro lg187 em188
                      have hI189 : I9 lg187 it182 := by rw [em188]; exact i9_l hI179 (by decide) (by decide) (by decide)
                      have hK190 : Kd (fun j => j = 518 ∨ j = 519 ∨ j = 520) (fun k => False) lg0 it0 lg187 it182 := by rw [em188]; exact kd_lr (by decide) (by first | decide | (dsimp only; decide) | omega | (dsimp only; omega)) hK180
                      try have f191 : ((x4 + 1) : Int32).toInt = (x4).toInt + 1 := ad32 (a := (x4).toInt) (b := 1) (rfl) (ti_1) (by omega) (by omega)
                      exact ih72 ((x4 + 1)) _ _ hI189 hK190 ⟨by omega, hv72_1⟩ (by omega)
                have t192 := ti_0
                exact ⟨_, lp72 ((61 - ((0 : Int32)).toInt).toNat + 1) ((0 : Int32)) _ _ hI177 hK178 ⟨by omega, TS_9 (by assumption) (by assumption) (by first | exact (if_neg (by omega)).symm | exact (if_pos (by omega)).symm)⟩ (Nat.lt_succ_self _)⟩
              · try simp only [Int32.lt_iff_toInt_lt, Int32.le_iff_toInt_le, ← Int32.toInt_inj, Int32.toInt_toInt64, tiA, tlA] at c60
                have hi193 : vp_in a1 6 := vp_of (by first | omega | ((try simp only [Int32.lt_iff_toInt_lt, Int32.le_iff_toInt_le, ← Int32.toInt_inj, Int32.toInt_toInt64, tiA, tlA]); omega) | (split <;> omega)) (by first | omega | ((try simp only [Int32.lt_iff_toInt_lt, Int32.le_iff_toInt_le, ← Int32.toInt_inj, Int32.toInt_toInt64, tiA, tlA]); omega) | (split <;> omega))
                refine ⟨hi193, ?_⟩
                have hz194 := vlt hi193
                intro it195 em196
                have hI197 : I9 lg0 it195 := by rw [em196]; exact i9_u hI171 (ok9_b (a := 0) (b := 60) rfl (by first | decide | ((try simp only [Int32.lt_iff_toInt_lt, Int32.le_iff_toInt_le, ← Int32.toInt_inj, Int32.toInt_toInt64, tiA, tlA]); omega) | (split <;> (try simp only [Int32.lt_iff_toInt_lt, Int32.le_iff_toInt_le, ← Int32.toInt_inj, Int32.toInt_toInt64, tiA, tlA]) <;> omega))) (by decide) (fun q => absurd q (by decide))
                have hK198 : Kd (fun j => j = 518 ∨ j = 519 ∨ j = 520) (fun k => False) lg0 it0 lg0 it195 := by rw [em196]; exact kd_ur (by decide) (by first | decide | (dsimp only; decide) | omega | (dsimp only; omega)) hK172
                have lp72 : ∀ (n : Nat) (x4 : Int32) (lg : LGt) (it : ITt), I9 lg it → Kd (fun j => j = 518 ∨ j = 519 ∨ j = 520) (fun k => False) lg0 it0 lg it → ((0 ≤ (x4).toInt) ∧ (TS 1 a1 a2 a3 (it0 518) (it0 519) (it 518) (it 519))) → (61 - (x4).toInt).toNat < n → w_X9_tape_b72 a1 a2 a3 Pz  n x4 lg it := by
                  intro n72
                  induction n72 with
                  | zero => intro x4 lg it _ _ _ hn; exact absurd hn (Nat.not_lt_zero _)
                  | succ n72 ih72 =>
                    intro x4 lg201 it202 hI199 hK200 hv hn
                    unfold w_X9_tape_b72
                    obtain ⟨hv72_0, hv72_1⟩ := hv
                    refine ⟨fun c76 => ?_, fun c76 => ?_⟩
                    · try simp only [Int32.lt_iff_toInt_lt, Int32.le_iff_toInt_le, ← Int32.toInt_inj, Int32.toInt_toInt64, tiA, tlA] at c76
                      subst hp
                      exact ⟨⟨hI199, hK200⟩, ⟨by first | exact tp_n (by omega) | exact tp_b (by omega) (by omega) | exact tp_s (by omega) (by omega) (by omega) | exact tp_1 (by omega) (by omega) (by omega), by first | exact TS_0 (by decide) | assumption⟩⟩
                    · try simp only [Int32.lt_iff_toInt_lt, Int32.le_iff_toInt_le, ← Int32.toInt_inj, Int32.toInt_toInt64, tiA, tlA] at c76
                      try have f203 : ((60 * a1) : Int32).toInt = 60 * (a1).toInt := ml32 (a := 60) (b := (a1).toInt) (ti_60) (rfl) (by omega) (by omega)
                      try have f204 : (((60 * a1) + x4) : Int32).toInt = ((60 * a1)).toInt + (x4).toInt := ad32 (a := ((60 * a1)).toInt) (b := (x4).toInt) (rfl) (rfl) (by omega) (by omega)
                      have hi205 : vp_in ((60 * a1) + x4) 360 := vp_of (by first | omega | ((try simp only [Int32.lt_iff_toInt_lt, Int32.le_iff_toInt_le, ← Int32.toInt_inj, Int32.toInt_toInt64, tiA, tlA]); omega) | (split <;> omega)) (by first | omega | ((try simp only [Int32.lt_iff_toInt_lt, Int32.le_iff_toInt_le, ← Int32.toInt_inj, Int32.toInt_toInt64, tiA, tlA]); omega) | (split <;> omega))
                      refine ⟨hi205, ?_⟩
                      have hz206 := vlt hi205
                      intro lg207 em208
                      have hI209 : I9 lg207 it202 := by rw [em208]; exact i9_l hI199 (by decide) (by decide) (by decide)
                      have hK210 : Kd (fun j => j = 518 ∨ j = 519 ∨ j = 520) (fun k => False) lg0 it0 lg207 it202 := by rw [em208]; exact kd_lr (by decide) (by first | decide | (dsimp only; decide) | omega | (dsimp only; omega)) hK200
                      try have f211 : ((x4 + 1) : Int32).toInt = (x4).toInt + 1 := ad32 (a := (x4).toInt) (b := 1) (rfl) (ti_1) (by omega) (by omega)
                      exact ih72 ((x4 + 1)) _ _ hI209 hK210 ⟨by omega, hv72_1⟩ (by omega)
                have t212 := ti_0
                exact ⟨_, lp72 ((61 - ((0 : Int32)).toInt).toNat + 1) ((0 : Int32)) _ _ hI197 hK198 ⟨by omega, TS_9 (by assumption) (by assumption) (by first | exact (if_neg (by omega)).symm | exact (if_pos (by omega)).symm)⟩ (Nat.lt_succ_self _)⟩
            · try simp only [Int32.lt_iff_toInt_lt, Int32.le_iff_toInt_le, ← Int32.toInt_inj, Int32.toInt_toInt64, tiA, tlA] at c41
              subst hp
              exact ⟨⟨hI, hKr⟩, ⟨by first | exact tp_n (by omega) | exact tp_b (by omega) (by omega) | exact tp_s (by omega) (by omega) (by omega) | exact tp_1 (by omega) (by omega) (by omega), by first | exact TS_0 (by decide) | assumption⟩⟩
        · try simp only [Int32.lt_iff_toInt_lt, Int32.le_iff_toInt_le, ← Int32.toInt_inj, Int32.toInt_toInt64, tiA, tlA] at c30
          subst hp
          exact ⟨⟨hI, hKr⟩, ⟨by first | exact tp_n (by omega) | exact tp_b (by omega) (by omega) | exact tp_s (by omega) (by omega) (by omega) | exact tp_1 (by omega) (by omega) (by omega), by first | exact TS_0 (by decide) | assumption⟩⟩
  · try simp only [Int32.lt_iff_toInt_lt, Int32.le_iff_toInt_le, ← Int32.toInt_inj, Int32.toInt_toInt64, tiA, tlA] at c4
    subst hp
    exact ⟨⟨hI, hKr⟩, ⟨by first | exact tp_n (by omega) | exact tp_b (by omega) (by omega) | exact tp_s (by omega) (by omega) (by omega) | exact tp_1 (by omega) (by omega) (by omega), by first | exact TS_0 (by decide) | assumption⟩⟩
set_option maxRecDepth 100000 in
theorem t_X8_item (a1 : Int32) (a2 : Int32) (a3 : Int64) {lg0 : LGt} {it0 : ITt} (hI : I8 lg0 it0) (hT : ∀ t : Nat, t < 6 → -1 ≤ (it0 (474 + 2 * t) 0).toInt) : w_X8_item a1 a2 a3 (fun (v : Int32) (lg' : LGt) (it' : ITt) => (I8 lg' it' ∧ Ki (fun j => (473 ≤ j ∧ j < 486)) lg0 it0 lg' it') ∧ (v = itemA a1 a2 (it0 (474 + 2 * a1.toNatClampNeg) 0) (it0 (474 + 2 * a1.toNatClampNeg) 1)))  lg0 it0 := by
  have hb_a1 := And.intro a1.le_toInt a1.toInt_lt
  have hb_a2 := And.intro a2.le_toInt a2.toInt_lt
  have hKr : Ki (fun j => (473 ≤ j ∧ j < 486)) lg0 it0 lg0 it0 := ki_r
  generalize hp : (fun (v : Int32) (lg' : LGt) (it' : ITt) => (I8 lg' it' ∧ Ki (fun j => (473 ≤ j ∧ j < 486)) lg0 it0 lg' it') ∧ (v = itemA a1 a2 (it0 (474 + 2 * a1.toNatClampNeg) 0) (it0 (474 + 2 * a1.toNatClampNeg) 1))) = Pz
  unfold w_X8_item
  have hs1 := rt_lo (a := a1) hT
  refine ⟨fun c4 => ?_, fun c4 => ?_⟩
  · try simp only [Int32.lt_iff_toInt_lt, Int32.le_iff_toInt_le, ← Int32.toInt_inj, Int32.toInt_toInt64, tiA, tlA] at c4
    have hi21 : vp_in a1 6 := vp_of (by first | omega | ((try simp only [Int32.lt_iff_toInt_lt, Int32.le_iff_toInt_le, ← Int32.toInt_inj, Int32.toInt_toInt64, tiA, tlA]); omega) | (split <;> omega)) (by first | omega | ((try simp only [Int32.lt_iff_toInt_lt, Int32.le_iff_toInt_le, ← Int32.toInt_inj, Int32.toInt_toInt64, tiA, tlA]); omega) | (split <;> omega))
    refine ⟨hi21, ?_⟩
    have hz22 := vlt hi21
    refine ⟨fun c23 => ?_, fun c23 => ?_⟩
    · try simp only [Int32.lt_iff_toInt_lt, Int32.le_iff_toInt_le, ← Int32.toInt_inj, Int32.toInt_toInt64, tiA, tlA] at c23
      refine ⟨fun c30 => ?_, fun c30 => ?_⟩
      · try simp only [Int32.lt_iff_toInt_lt, Int32.le_iff_toInt_le, ← Int32.toInt_inj, Int32.toInt_toInt64, tiA, tlA] at c30
        subst hp
        exact ⟨⟨hI, hKr⟩, by unfold itemA; first | (rw [if_pos (by omega)]) | (rw [if_neg (by omega), if_pos (by omega)]) | (rw [if_neg (by omega), if_neg (by omega), if_pos (by omega)]) | (rw [if_neg (by omega), if_neg (by omega), if_neg (by omega), if_pos (by omega)]) | (rw [if_neg (by omega), if_neg (by omega), if_neg (by omega), if_neg (by omega)]) | (rw [if_neg (by omega), if_neg (by omega), if_neg (by omega)])⟩
      · try simp only [Int32.lt_iff_toInt_lt, Int32.le_iff_toInt_le, ← Int32.toInt_inj, Int32.toInt_toInt64, tiA, tlA] at c30
        have f23 : 0 ≤ (it0 (474 + 2 * a1.toNatClampNeg) 1).toInt ∧ (it0 (474 + 2 * a1.toNatClampNeg) 1).toInt ≤ 60 := i8_6 hI (obt (rtp (vlt (hi21))))
        refine ⟨fun c39 => ?_, fun c39 => ?_⟩
        · try simp only [Int32.lt_iff_toInt_lt, Int32.le_iff_toInt_le, ← Int32.toInt_inj, Int32.toInt_toInt64, tiA, tlA] at c39
          refine ⟨_, s_X6_cut ((rtp (vlt (hi21)))) (a3) hI , ?_⟩
          intro v29 lg24 it25 hq
          obtain ⟨hI26, hK27⟩ := hq
          have hK28 : Ki (fun j => (473 ≤ j ∧ j < 486)) lg0 it0 lg24 it25 := ki_t hKr hK27 (fun j hj => hj)
          try have e31 : (it25 (474 + 2 * a1.toNatClampNeg) 0).toInt = (it0 (474 + 2 * a1.toNatClampNeg) 0).toInt := congrArg (fun f => Int32.toInt (f 0)) (hK27 (474 + 2 * a1.toNatClampNeg) (by first | omega | (dsimp only; omega))).2
          try have e32 : (it25 (474 + 2 * a1.toNatClampNeg) 1).toInt = (it0 (474 + 2 * a1.toNatClampNeg) 1).toInt := congrArg (fun f => Int32.toInt (f 1)) (hK27 (474 + 2 * a1.toNatClampNeg) (by first | omega | (dsimp only; omega))).2
          have hi33 : vp_in a2 60 := vp_of (by first | omega | ((try simp only [Int32.lt_iff_toInt_lt, Int32.le_iff_toInt_le, ← Int32.toInt_inj, Int32.toInt_toInt64, tiA, tlA]); omega) | (split <;> omega)) (by first | omega | ((try simp only [Int32.lt_iff_toInt_lt, Int32.le_iff_toInt_le, ← Int32.toInt_inj, Int32.toInt_toInt64, tiA, tlA]); omega) | (split <;> omega))
          refine ⟨hi33, ?_⟩
          have hz34 := vlt hi33
          intro lg35 em36
          have hI37 : I8 lg35 it25 := hI26
          have hK38 : Ki (fun j => (473 ≤ j ∧ j < 486)) lg0 it0 lg35 it25 := by rw [em36]; exact ki_l (by first | omega | (dsimp only; omega)) hK28
          subst hp
          exact ⟨⟨hI37, hK38⟩, by unfold itemA; first | (rw [if_pos (by omega)]) | (rw [if_neg (by omega), if_pos (by omega)]) | (rw [if_neg (by omega), if_neg (by omega), if_pos (by omega)]) | (rw [if_neg (by omega), if_neg (by omega), if_neg (by omega), if_pos (by omega)]) | (rw [if_neg (by omega), if_neg (by omega), if_neg (by omega), if_neg (by omega)]) | (rw [if_neg (by omega), if_neg (by omega), if_neg (by omega)])⟩
        · try simp only [Int32.lt_iff_toInt_lt, Int32.le_iff_toInt_le, ← Int32.toInt_inj, Int32.toInt_toInt64, tiA, tlA] at c39
          subst hp
          exact ⟨⟨hI, hKr⟩, by unfold itemA; first | (rw [if_pos (by omega)]) | (rw [if_neg (by omega), if_pos (by omega)]) | (rw [if_neg (by omega), if_neg (by omega), if_pos (by omega)]) | (rw [if_neg (by omega), if_neg (by omega), if_neg (by omega), if_pos (by omega)]) | (rw [if_neg (by omega), if_neg (by omega), if_neg (by omega), if_neg (by omega)]) | (rw [if_neg (by omega), if_neg (by omega), if_neg (by omega)])⟩
    · try simp only [Int32.lt_iff_toInt_lt, Int32.le_iff_toInt_le, ← Int32.toInt_inj, Int32.toInt_toInt64, tiA, tlA] at c23
      subst hp
      exact ⟨⟨hI, hKr⟩, by unfold itemA; first | (rw [if_pos (by omega)]) | (rw [if_neg (by omega), if_pos (by omega)]) | (rw [if_neg (by omega), if_neg (by omega), if_pos (by omega)]) | (rw [if_neg (by omega), if_neg (by omega), if_neg (by omega), if_pos (by omega)]) | (rw [if_neg (by omega), if_neg (by omega), if_neg (by omega), if_neg (by omega)]) | (rw [if_neg (by omega), if_neg (by omega), if_neg (by omega)])⟩
  · try simp only [Int32.lt_iff_toInt_lt, Int32.le_iff_toInt_le, ← Int32.toInt_inj, Int32.toInt_toInt64, tiA, tlA] at c4
    subst hp
    exact ⟨⟨hI, hKr⟩, by unfold itemA; first | (rw [if_pos (by omega)]) | (rw [if_neg (by omega), if_pos (by omega)]) | (rw [if_neg (by omega), if_neg (by omega), if_pos (by omega)]) | (rw [if_neg (by omega), if_neg (by omega), if_neg (by omega), if_pos (by omega)]) | (rw [if_neg (by omega), if_neg (by omega), if_neg (by omega), if_neg (by omega)]) | (rw [if_neg (by omega), if_neg (by omega), if_neg (by omega)])⟩
set_option maxRecDepth 100000 in
theorem t_X8_shift (a1 : Int32) (a2 : Int32) (a3 : Int32) (a4 : Int32) (a5 : Int32) {lg0 : LGt} {it0 : ITt} (hI : I8 lg0 it0) (hT : ∀ t : Nat, t < 6 → -1 ≤ (it0 (474 + 2 * t) 0).toInt) : w_X8_shift a1 a2 a3 a4 a5 (fun (v : Int32) (lg' : LGt) (it' : ITt) => (I8 lg' it' ∧ Ki (fun j => (473 ≤ j ∧ j < 486)) lg0 it0 lg' it') ∧ (v = shiftA a1 a2 a3 a4 a5 (it0 (474 + 2 * a1.toNatClampNeg) 0) (it0 (474 + 2 * a1.toNatClampNeg) 1) (it0 (474 + 2 * a3.toNatClampNeg) 0) (it0 (474 + 2 * a3.toNatClampNeg) 1)))  lg0 it0 := by
  have hb_a1 := And.intro a1.le_toInt a1.toInt_lt
  have hb_a2 := And.intro a2.le_toInt a2.toInt_lt
  have hb_a3 := And.intro a3.le_toInt a3.toInt_lt
  have hb_a4 := And.intro a4.le_toInt a4.toInt_lt
  have hb_a5 := And.intro a5.le_toInt a5.toInt_lt
  have hKr : Ki (fun j => (473 ≤ j ∧ j < 486)) lg0 it0 lg0 it0 := ki_r
  generalize hp : (fun (v : Int32) (lg' : LGt) (it' : ITt) => (I8 lg' it' ∧ Ki (fun j => (473 ≤ j ∧ j < 486)) lg0 it0 lg' it') ∧ (v = shiftA a1 a2 a3 a4 a5 (it0 (474 + 2 * a1.toNatClampNeg) 0) (it0 (474 + 2 * a1.toNatClampNeg) 1) (it0 (474 + 2 * a3.toNatClampNeg) 0) (it0 (474 + 2 * a3.toNatClampNeg) 1))) = Pz
  unfold w_X8_shift
  have hs1 := rt_lo (a := a1) hT
  have hs3 := rt_lo (a := a3) hT
  refine ⟨fun c4 => ?_, fun c4 => ?_⟩
  · try simp only [Int32.lt_iff_toInt_lt, Int32.le_iff_toInt_le, ← Int32.toInt_inj, Int32.toInt_toInt64, tiA, tlA] at c4
    subst hp
    exact ⟨⟨hI, hKr⟩, by unfold shiftA; first | (rw [if_pos (by omega)]) | (rw [if_neg (by omega), if_pos (by omega)]) | (rw [if_neg (by omega), if_neg (by omega), if_pos (by omega)]) | (rw [if_neg (by omega), if_neg (by omega), if_neg (by omega), if_pos (by omega)]) | (rw [if_neg (by omega), if_neg (by omega), if_neg (by omega), if_neg (by omega)]) | (rw [if_neg (by omega), if_neg (by omega), if_neg (by omega)])⟩
  · try simp only [Int32.lt_iff_toInt_lt, Int32.le_iff_toInt_le, ← Int32.toInt_inj, Int32.toInt_toInt64, tiA, tlA] at c4
    refine ⟨fun c11 => ?_, fun c11 => ?_⟩
    · try simp only [Int32.lt_iff_toInt_lt, Int32.le_iff_toInt_le, ← Int32.toInt_inj, Int32.toInt_toInt64, tiA, tlA] at c11
      have hi29 : vp_in a1 6 := vp_of (by first | omega | ((try simp only [Int32.lt_iff_toInt_lt, Int32.le_iff_toInt_le, ← Int32.toInt_inj, Int32.toInt_toInt64, tiA, tlA]); omega) | (split <;> omega)) (by first | omega | ((try simp only [Int32.lt_iff_toInt_lt, Int32.le_iff_toInt_le, ← Int32.toInt_inj, Int32.toInt_toInt64, tiA, tlA]); omega) | (split <;> omega))
      refine ⟨hi29, ?_⟩
      have hz30 := vlt hi29
      have hi31 : vp_in a3 6 := vp_of (by first | omega | ((try simp only [Int32.lt_iff_toInt_lt, Int32.le_iff_toInt_le, ← Int32.toInt_inj, Int32.toInt_toInt64, tiA, tlA]); omega) | (split <;> omega)) (by first | omega | ((try simp only [Int32.lt_iff_toInt_lt, Int32.le_iff_toInt_le, ← Int32.toInt_inj, Int32.toInt_toInt64, tiA, tlA]); omega) | (split <;> omega))
      refine ⟨hi31, ?_⟩
      have hz32 := vlt hi31
      refine ⟨fun c38 => ?_, fun c38 => ?_⟩
      · try simp only [Int32.lt_iff_toInt_lt, Int32.le_iff_toInt_le, ← Int32.toInt_inj, Int32.toInt_toInt64, tiA, tlA] at c38
        subst hp
        exact ⟨⟨hI, hKr⟩, by unfold shiftA; first | (rw [if_pos (by omega)]) | (rw [if_neg (by omega), if_pos (by omega)]) | (rw [if_neg (by omega), if_neg (by omega), if_pos (by omega)]) | (rw [if_neg (by omega), if_neg (by omega), if_neg (by omega), if_pos (by omega)]) | (rw [if_neg (by omega), if_neg (by omega), if_neg (by omega), if_neg (by omega)]) | (rw [if_neg (by omega), if_neg (by omega), if_neg (by omega)])⟩
      · try simp only [Int32.lt_iff_toInt_lt, Int32.le_iff_toInt_le, ← Int32.toInt_inj, Int32.toInt_toInt64, tiA, tlA] at c38
        refine ⟨fun c47 => ?_, fun c47 => ?_⟩
        · try simp only [Int32.lt_iff_toInt_lt, Int32.le_iff_toInt_le, ← Int32.toInt_inj, Int32.toInt_toInt64, tiA, tlA] at c47
          refine ⟨fun c63 => ?_, fun c63 => ?_⟩
          · try simp only [Int32.lt_iff_toInt_lt, Int32.le_iff_toInt_le, ← Int32.toInt_inj, Int32.toInt_toInt64, tiA, tlA] at c63
            refine ⟨fun c71 => ?_, fun c71 => ?_⟩
            · try simp only [Int32.lt_iff_toInt_lt, Int32.le_iff_toInt_le, ← Int32.toInt_inj, Int32.toInt_toInt64, tiA, tlA] at c71
              subst hp
              exact ⟨⟨hI, hKr⟩, by unfold shiftA; first | (rw [if_pos (by omega)]) | (rw [if_neg (by omega), if_pos (by omega)]) | (rw [if_neg (by omega), if_neg (by omega), if_pos (by omega)]) | (rw [if_neg (by omega), if_neg (by omega), if_neg (by omega), if_pos (by omega)]) | (rw [if_neg (by omega), if_neg (by omega), if_neg (by omega), if_neg (by omega)]) | (rw [if_neg (by omega), if_neg (by omega), if_neg (by omega)])⟩
            · try simp only [Int32.lt_iff_toInt_lt, Int32.le_iff_toInt_le, ← Int32.toInt_inj, Int32.toInt_toInt64, tiA, tlA] at c71
              refine ⟨fun c75 => ?_, fun c75 => ?_⟩
              · try simp only [Int32.lt_iff_toInt_lt, Int32.le_iff_toInt_le, ← Int32.toInt_inj, Int32.toInt_toInt64, tiA, tlA] at c75
                subst hp
                exact ⟨⟨hI, hKr⟩, by unfold shiftA; first | (rw [if_pos (by omega)]) | (rw [if_neg (by omega), if_pos (by omega)]) | (rw [if_neg (by omega), if_neg (by omega), if_pos (by omega)]) | (rw [if_neg (by omega), if_neg (by omega), if_neg (by omega), if_pos (by omega)]) | (rw [if_neg (by omega), if_neg (by omega), if_neg (by omega), if_neg (by omega)]) | (rw [if_neg (by omega), if_neg (by omega), if_neg (by omega)])⟩
              · try simp only [Int32.lt_iff_toInt_lt, Int32.le_iff_toInt_le, ← Int32.toInt_inj, Int32.toInt_toInt64, tiA, tlA] at c75
                refine ⟨fun c80 => ?_, fun c80 => ?_⟩
                · try simp only [Int32.lt_iff_toInt_lt, Int32.le_iff_toInt_le, ← Int32.toInt_inj, Int32.toInt_toInt64, tiA, tlA] at c80
                  subst hp
                  exact ⟨⟨hI, hKr⟩, by unfold shiftA; first | (rw [if_pos (by omega)]) | (rw [if_neg (by omega), if_pos (by omega)]) | (rw [if_neg (by omega), if_neg (by omega), if_pos (by omega)]) | (rw [if_neg (by omega), if_neg (by omega), if_neg (by omega), if_pos (by omega)]) | (rw [if_neg (by omega), if_neg (by omega), if_neg (by omega), if_neg (by omega)]) | (rw [if_neg (by omega), if_neg (by omega), if_neg (by omega)])⟩
                · try simp only [Int32.lt_iff_toInt_lt, Int32.le_iff_toInt_le, ← Int32.toInt_inj, Int32.toInt_toInt64, tiA, tlA] at c80
                  have f33 : 0 ≤ (it0 (474 + 2 * a1.toNatClampNeg) 1).toInt ∧ (it0 (474 + 2 * a1.toNatClampNeg) 1).toInt ≤ 60 := i8_6 hI (obt (rtp (vlt (hi29))))
                  try have f34 : (((it0 (474 + 2 * a1.toNatClampNeg) 1) - a5) : Int32).toInt = ((it0 (474 + 2 * a1.toNatClampNeg) 1)).toInt - (a5).toInt := sb32 (a := ((it0 (474 + 2 * a1.toNatClampNeg) 1)).toInt) (b := (a5).toInt) (rfl) (rfl) (by omega) (by omega)
                  refine ⟨fun c92 => ?_, fun c92 => ?_⟩
                  · try simp only [Int32.lt_iff_toInt_lt, Int32.le_iff_toInt_le, ← Int32.toInt_inj, Int32.toInt_toInt64, tiA, tlA] at c92
                    subst hp
                    exact ⟨⟨hI, hKr⟩, by unfold shiftA; first | (rw [if_pos (by omega)]) | (rw [if_neg (by omega), if_pos (by omega)]) | (rw [if_neg (by omega), if_neg (by omega), if_pos (by omega)]) | (rw [if_neg (by omega), if_neg (by omega), if_neg (by omega), if_pos (by omega)]) | (rw [if_neg (by omega), if_neg (by omega), if_neg (by omega), if_neg (by omega)]) | (rw [if_neg (by omega), if_neg (by omega), if_neg (by omega)])⟩
                  · try simp only [Int32.lt_iff_toInt_lt, Int32.le_iff_toInt_le, ← Int32.toInt_inj, Int32.toInt_toInt64, tiA, tlA] at c92
                    have f35 : 0 ≤ (it0 (474 + 2 * a3.toNatClampNeg) 1).toInt ∧ (it0 (474 + 2 * a3.toNatClampNeg) 1).toInt ≤ 60 := i8_6 hI (obt (rtp (vlt (hi31))))
                    try have f36 : (((it0 (474 + 2 * a3.toNatClampNeg) 1) - a5) : Int32).toInt = ((it0 (474 + 2 * a3.toNatClampNeg) 1)).toInt - (a5).toInt := sb32 (a := ((it0 (474 + 2 * a3.toNatClampNeg) 1)).toInt) (b := (a5).toInt) (rfl) (rfl) (by omega) (by omega)
                    refine ⟨fun c105 => ?_, fun c105 => ?_⟩
                    · try simp only [Int32.lt_iff_toInt_lt, Int32.le_iff_toInt_le, ← Int32.toInt_inj, Int32.toInt_toInt64, tiA, tlA] at c105
                      have hc38 : cpc ((474 + 2 * a1.toNatClampNeg) + 1) ((474 + 2 * a3.toNatClampNeg) + 1) NT 12 a2 a4 a5 := ⟨⟨tob (rtp (vlt (hi29))), tob (rtp (vlt (hi31)))⟩, ⟨by rw [Int32.lt_iff_toInt_lt, ti_0]; omega, by rw [Int32.lt_iff_toInt_lt, ti_0]; omega, by rw [Int32.lt_iff_toInt_lt, ti_0]; omega⟩, by rw [tln (rtp (vlt (hi29)))]; have z1 := cl32 (i := a2) (by omega); have z2 := cl32 (i := a5) (by omega); omega, by rw [tln (rtp (vlt (hi31)))]; have z1 := cl32 (i := a4) (by omega); have z2 := cl32 (i := a5) (by omega); omega⟩
                      refine ⟨hc38, ?_⟩
                      intro lg37 em_lg37
                      have hI39 : I8 lg37 it0 := hI
                      have hK40 : Ki (fun j => (473 ≤ j ∧ j < 486)) lg0 it0 lg37 it0 := by rw [em_lg37]; exact ki_cpl (by first | omega | (dsimp only; omega)) hKr
                      subst hp
                      exact ⟨⟨hI39, hK40⟩, by unfold shiftA; first | (rw [if_pos (by omega)]) | (rw [if_neg (by omega), if_pos (by omega)]) | (rw [if_neg (by omega), if_neg (by omega), if_pos (by omega)]) | (rw [if_neg (by omega), if_neg (by omega), if_neg (by omega), if_pos (by omega)]) | (rw [if_neg (by omega), if_neg (by omega), if_neg (by omega), if_neg (by omega)]) | (rw [if_neg (by omega), if_neg (by omega), if_neg (by omega)])⟩
                    · try simp only [Int32.lt_iff_toInt_lt, Int32.le_iff_toInt_le, ← Int32.toInt_inj, Int32.toInt_toInt64, tiA, tlA] at c105
                      subst hp
                      exact ⟨⟨hI, hKr⟩, by unfold shiftA; first | (rw [if_pos (by omega)]) | (rw [if_neg (by omega), if_pos (by omega)]) | (rw [if_neg (by omega), if_neg (by omega), if_pos (by omega)]) | (rw [if_neg (by omega), if_neg (by omega), if_neg (by omega), if_pos (by omega)]) | (rw [if_neg (by omega), if_neg (by omega), if_neg (by omega), if_neg (by omega)]) | (rw [if_neg (by omega), if_neg (by omega), if_neg (by omega)])⟩
          · try simp only [Int32.lt_iff_toInt_lt, Int32.le_iff_toInt_le, ← Int32.toInt_inj, Int32.toInt_toInt64, tiA, tlA] at c63
            subst hp
            exact ⟨⟨hI, hKr⟩, by unfold shiftA; first | (rw [if_pos (by omega)]) | (rw [if_neg (by omega), if_pos (by omega)]) | (rw [if_neg (by omega), if_neg (by omega), if_pos (by omega)]) | (rw [if_neg (by omega), if_neg (by omega), if_neg (by omega), if_pos (by omega)]) | (rw [if_neg (by omega), if_neg (by omega), if_neg (by omega), if_neg (by omega)]) | (rw [if_neg (by omega), if_neg (by omega), if_neg (by omega)])⟩
        · try simp only [Int32.lt_iff_toInt_lt, Int32.le_iff_toInt_le, ← Int32.toInt_inj, Int32.toInt_toInt64, tiA, tlA] at c47
          subst hp
          exact ⟨⟨hI, hKr⟩, by unfold shiftA; first | (rw [if_pos (by omega)]) | (rw [if_neg (by omega), if_pos (by omega)]) | (rw [if_neg (by omega), if_neg (by omega), if_pos (by omega)]) | (rw [if_neg (by omega), if_neg (by omega), if_neg (by omega), if_pos (by omega)]) | (rw [if_neg (by omega), if_neg (by omega), if_neg (by omega), if_neg (by omega)]) | (rw [if_neg (by omega), if_neg (by omega), if_neg (by omega)])⟩
    · try simp only [Int32.lt_iff_toInt_lt, Int32.le_iff_toInt_le, ← Int32.toInt_inj, Int32.toInt_toInt64, tiA, tlA] at c11
      subst hp
      exact ⟨⟨hI, hKr⟩, by unfold shiftA; first | (rw [if_pos (by omega)]) | (rw [if_neg (by omega), if_pos (by omega)]) | (rw [if_neg (by omega), if_neg (by omega), if_pos (by omega)]) | (rw [if_neg (by omega), if_neg (by omega), if_neg (by omega), if_pos (by omega)]) | (rw [if_neg (by omega), if_neg (by omega), if_neg (by omega), if_neg (by omega)]) | (rw [if_neg (by omega), if_neg (by omega), if_neg (by omega)])⟩
set_option maxRecDepth 100000 in
theorem t_X9_item (a1 : Int32) (a2 : Int32) (a3 : Int64) {lg0 : LGt} {it0 : ITt} (hI : I9 lg0 it0) : w_X9_item a1 a2 a3 (fun (v : Int32) (lg' : LGt) (it' : ITt) => (I9 lg' it' ∧ Kd (fun j => j = 520) (fun k => False) lg0 it0 lg' it') ∧ (v = itemA a1 a2 (it0 518 a1.toNatClampNeg) (it0 519 a1.toNatClampNeg)))  lg0 it0 := by
  have hb_a1 := And.intro a1.le_toInt a1.toInt_lt
  have hb_a2 := And.intro a2.le_toInt a2.toInt_lt
  have hKr : Kd (fun j => j = 520) (fun k => False) lg0 it0 lg0 it0 := kd_r
  generalize hp : (fun (v : Int32) (lg' : LGt) (it' : ITt) => (I9 lg' it' ∧ Kd (fun j => j = 520) (fun k => False) lg0 it0 lg' it') ∧ (v = itemA a1 a2 (it0 518 a1.toNatClampNeg) (it0 519 a1.toNatClampNeg))) = Pz
  unfold w_X9_item
  have t0 := ti_0
  have t9 := ti_9
  have tm1 := ti_m1
  refine ⟨fun c4 => ?_, fun c4 => ?_⟩
  · try simp only [Int32.lt_iff_toInt_lt, Int32.le_iff_toInt_le, ← Int32.toInt_inj, Int32.toInt_toInt64, tiA, tlA] at c4
    have hi41 : vp_in a1 6 := vp_of (by first | omega | ((try simp only [Int32.lt_iff_toInt_lt, Int32.le_iff_toInt_le, ← Int32.toInt_inj, Int32.toInt_toInt64, tiA, tlA]); omega) | (split <;> omega)) (by first | omega | ((try simp only [Int32.lt_iff_toInt_lt, Int32.le_iff_toInt_le, ← Int32.toInt_inj, Int32.toInt_toInt64, tiA, tlA]); omega) | (split <;> omega))
    refine ⟨hi41, ?_⟩
    have hz42 := vlt hi41
    refine ⟨fun c15 => ?_, fun c15 => ?_⟩
    · try simp only [Int32.lt_iff_toInt_lt, Int32.le_iff_toInt_le, ← Int32.toInt_inj, Int32.toInt_toInt64, tiA, tlA] at c15
      have hi43 : vp_in a1 6 := vp_of (by first | omega | ((try simp only [Int32.lt_iff_toInt_lt, Int32.le_iff_toInt_le, ← Int32.toInt_inj, Int32.toInt_toInt64, tiA, tlA]); omega) | (split <;> omega)) (by first | omega | ((try simp only [Int32.lt_iff_toInt_lt, Int32.le_iff_toInt_le, ← Int32.toInt_inj, Int32.toInt_toInt64, tiA, tlA]); omega) | (split <;> omega))
      refine ⟨hi43, ?_⟩
      have hz44 := vlt hi43
      have f45 : 0 ≤ (it0 519 a1.toNatClampNeg).toInt ∧ (it0 519 a1.toNatClampNeg).toInt ≤ 60 := i9_f hI (j := 519) (k := a1.toNatClampNeg) rfl
      try have f46 : (((it0 519 a1.toNatClampNeg) - 1) : Int32).toInt = ((it0 519 a1.toNatClampNeg)).toInt - 1 := sb32 (a := ((it0 519 a1.toNatClampNeg)).toInt) (b := 1) (rfl) (ti_1) (by omega) (by omega)
      refine ⟨fun c36 => ?_, fun c36 => ?_⟩
      · try simp only [Int32.lt_iff_toInt_lt, Int32.le_iff_toInt_le, ← Int32.toInt_inj, Int32.toInt_toInt64, tiA, tlA] at c36
        have hi47 : vp_in a1 6 := vp_of (by first | omega | ((try simp only [Int32.lt_iff_toInt_lt, Int32.le_iff_toInt_le, ← Int32.toInt_inj, Int32.toInt_toInt64, tiA, tlA]); omega) | (split <;> omega)) (by first | omega | ((try simp only [Int32.lt_iff_toInt_lt, Int32.le_iff_toInt_le, ← Int32.toInt_inj, Int32.toInt_toInt64, tiA, tlA]); omega) | (split <;> omega))
        refine ⟨hi47, ?_⟩
        have hz48 := vlt hi47
        try have f49 : ((60 * a1) : Int32).toInt = 60 * (a1).toInt := ml32 (a := 60) (b := (a1).toInt) (ti_60) (rfl) (by omega) (by omega)
        try have f50 : (((60 * a1) + a2) : Int32).toInt = ((60 * a1)).toInt + (a2).toInt := ad32 (a := ((60 * a1)).toInt) (b := (a2).toInt) (rfl) (rfl) (by omega) (by omega)
        refine ⟨fun c62 => ?_, fun c62 => ?_⟩
        · try simp only [Int32.lt_iff_toInt_lt, Int32.le_iff_toInt_le, ← Int32.toInt_inj, Int32.toInt_toInt64, tiA, tlA] at c62
          refine ⟨fun c75 => ?_, fun c75 => ?_⟩
          · try simp only [Int32.lt_iff_toInt_lt, Int32.le_iff_toInt_le, ← Int32.toInt_inj, Int32.toInt_toInt64, tiA, tlA] at c75
            refine ⟨fun c88 => ?_, fun c88 => ?_⟩
            · try simp only [Int32.lt_iff_toInt_lt, Int32.le_iff_toInt_le, ← Int32.toInt_inj, Int32.toInt_toInt64, tiA, tlA] at c88
              refine ⟨fun c100 => ?_, fun c100 => ?_⟩
              · try simp only [Int32.lt_iff_toInt_lt, Int32.le_iff_toInt_le, ← Int32.toInt_inj, Int32.toInt_toInt64, tiA, tlA] at c100
                refine ⟨fun c110 => ?_, fun c110 => ?_⟩
                · try simp only [Int32.lt_iff_toInt_lt, Int32.le_iff_toInt_le, ← Int32.toInt_inj, Int32.toInt_toInt64, tiA, tlA] at c110
                  have hi51 : vp_in ((60 * a1) + a2) 360 := vp_of (by first | omega | ((try simp only [Int32.lt_iff_toInt_lt, Int32.le_iff_toInt_le, ← Int32.toInt_inj, Int32.toInt_toInt64, tiA, tlA]); omega) | (split <;> omega)) (by first | omega | ((try simp only [Int32.lt_iff_toInt_lt, Int32.le_iff_toInt_le, ← Int32.toInt_inj, Int32.toInt_toInt64, tiA, tlA]); omega) | (split <;> omega))
                  refine ⟨hi51, ?_⟩
                  have hz52 := vlt hi51
                  intro lg53 em54
                  have hI55 : I9 lg53 it0 := by rw [em54]; exact i9_l hI (by decide) (by decide) (by decide)
                  have hK56 : Kd (fun j => j = 520) (fun k => False) lg0 it0 lg53 it0 := by rw [em54]; exact kd_lr (by decide) (by first | decide | (dsimp only; decide) | omega | (dsimp only; omega)) hKr
                  subst hp
                  exact ⟨⟨hI55, hK56⟩, by unfold itemA; first | (rw [if_pos (by omega)]) | (rw [if_neg (by omega), if_pos (by omega)]) | (rw [if_neg (by omega), if_neg (by omega), if_pos (by omega)]) | (rw [if_neg (by omega), if_neg (by omega), if_neg (by omega), if_pos (by omega)]) | (rw [if_neg (by omega), if_neg (by omega), if_neg (by omega), if_neg (by omega)]) | (rw [if_neg (by omega), if_neg (by omega), if_neg (by omega)])⟩
                · try simp only [Int32.lt_iff_toInt_lt, Int32.le_iff_toInt_le, ← Int32.toInt_inj, Int32.toInt_toInt64, tiA, tlA] at c110
                  have hi57 : vp_in ((60 * a1) + a2) 360 := vp_of (by first | omega | ((try simp only [Int32.lt_iff_toInt_lt, Int32.le_iff_toInt_le, ← Int32.toInt_inj, Int32.toInt_toInt64, tiA, tlA]); omega) | (split <;> omega)) (by first | omega | ((try simp only [Int32.lt_iff_toInt_lt, Int32.le_iff_toInt_le, ← Int32.toInt_inj, Int32.toInt_toInt64, tiA, tlA]); omega) | (split <;> omega))
                  refine ⟨hi57, ?_⟩
                  have hz58 := vlt hi57
                  intro lg59 em60
                  have hI61 : I9 lg59 it0 := by rw [em60]; exact i9_l hI (by decide) (by decide) (by decide)
                  have hK62 : Kd (fun j => j = 520) (fun k => False) lg0 it0 lg59 it0 := by rw [em60]; exact kd_lr (by decide) (by first | decide | (dsimp only; decide) | omega | (dsimp only; omega)) hKr
                  subst hp
                  exact ⟨⟨hI61, hK62⟩, by unfold itemA; first | (rw [if_pos (by omega)]) | (rw [if_neg (by omega), if_pos (by omega)]) | (rw [if_neg (by omega), if_neg (by omega), if_pos (by omega)]) | (rw [if_neg (by omega), if_neg (by omega), if_neg (by omega), if_pos (by omega)]) | (rw [if_neg (by omega), if_neg (by omega), if_neg (by omega), if_neg (by omega)]) | (rw [if_neg (by omega), if_neg (by omega), if_neg (by omega)])⟩
              · try simp only [Int32.lt_iff_toInt_lt, Int32.le_iff_toInt_le, ← Int32.toInt_inj, Int32.toInt_toInt64, tiA, tlA] at c100
                have hi63 : vp_in ((60 * a1) + a2) 360 := vp_of (by first | omega | ((try simp only [Int32.lt_iff_toInt_lt, Int32.le_iff_toInt_le, ← Int32.toInt_inj, Int32.toInt_toInt64, tiA, tlA]); omega) | (split <;> omega)) (by first | omega | ((try simp only [Int32.lt_iff_toInt_lt, Int32.le_iff_toInt_le, ← Int32.toInt_inj, Int32.toInt_toInt64, tiA, tlA]); omega) | (split <;> omega))
                refine ⟨hi63, ?_⟩
                have hz64 := vlt hi63
                intro lg65 em66
                have hI67 : I9 lg65 it0 := by rw [em66]; exact i9_l hI (by decide) (by decide) (by decide)
                have hK68 : Kd (fun j => j = 520) (fun k => False) lg0 it0 lg65 it0 := by rw [em66]; exact kd_lr (by decide) (by first | decide | (dsimp only; decide) | omega | (dsimp only; omega)) hKr
                subst hp
                exact ⟨⟨hI67, hK68⟩, by unfold itemA; first | (rw [if_pos (by omega)]) | (rw [if_neg (by omega), if_pos (by omega)]) | (rw [if_neg (by omega), if_neg (by omega), if_pos (by omega)]) | (rw [if_neg (by omega), if_neg (by omega), if_neg (by omega), if_pos (by omega)]) | (rw [if_neg (by omega), if_neg (by omega), if_neg (by omega), if_neg (by omega)]) | (rw [if_neg (by omega), if_neg (by omega), if_neg (by omega)])⟩
            · try simp only [Int32.lt_iff_toInt_lt, Int32.le_iff_toInt_le, ← Int32.toInt_inj, Int32.toInt_toInt64, tiA, tlA] at c88
              have hi69 : vp_in ((60 * a1) + a2) 360 := vp_of (by first | omega | ((try simp only [Int32.lt_iff_toInt_lt, Int32.le_iff_toInt_le, ← Int32.toInt_inj, Int32.toInt_toInt64, tiA, tlA]); omega) | (split <;> omega)) (by first | omega | ((try simp only [Int32.lt_iff_toInt_lt, Int32.le_iff_toInt_le, ← Int32.toInt_inj, Int32.toInt_toInt64, tiA, tlA]); omega) | (split <;> omega))
              refine ⟨hi69, ?_⟩
              have hz70 := vlt hi69
              intro lg71 em72
              have hI73 : I9 lg71 it0 := by rw [em72]; exact i9_l hI (by decide) (by decide) (by decide)
              have hK74 : Kd (fun j => j = 520) (fun k => False) lg0 it0 lg71 it0 := by rw [em72]; exact kd_lr (by decide) (by first | decide | (dsimp only; decide) | omega | (dsimp only; omega)) hKr
              subst hp
              exact ⟨⟨hI73, hK74⟩, by unfold itemA; first | (rw [if_pos (by omega)]) | (rw [if_neg (by omega), if_pos (by omega)]) | (rw [if_neg (by omega), if_neg (by omega), if_pos (by omega)]) | (rw [if_neg (by omega), if_neg (by omega), if_neg (by omega), if_pos (by omega)]) | (rw [if_neg (by omega), if_neg (by omega), if_neg (by omega), if_neg (by omega)]) | (rw [if_neg (by omega), if_neg (by omega), if_neg (by omega)])⟩
          · try simp only [Int32.lt_iff_toInt_lt, Int32.le_iff_toInt_le, ← Int32.toInt_inj, Int32.toInt_toInt64, tiA, tlA] at c75
            have hi75 : vp_in ((60 * a1) + a2) 360 := vp_of (by first | omega | ((try simp only [Int32.lt_iff_toInt_lt, Int32.le_iff_toInt_le, ← Int32.toInt_inj, Int32.toInt_toInt64, tiA, tlA]); omega) | (split <;> omega)) (by first | omega | ((try simp only [Int32.lt_iff_toInt_lt, Int32.le_iff_toInt_le, ← Int32.toInt_inj, Int32.toInt_toInt64, tiA, tlA]); omega) | (split <;> omega))
            refine ⟨hi75, ?_⟩
            have hz76 := vlt hi75
            intro lg77 em78
            have hI79 : I9 lg77 it0 := by rw [em78]; exact i9_l hI (by decide) (by decide) (by decide)
            have hK80 : Kd (fun j => j = 520) (fun k => False) lg0 it0 lg77 it0 := by rw [em78]; exact kd_lr (by decide) (by first | decide | (dsimp only; decide) | omega | (dsimp only; omega)) hKr
            subst hp
            exact ⟨⟨hI79, hK80⟩, by unfold itemA; first | (rw [if_pos (by omega)]) | (rw [if_neg (by omega), if_pos (by omega)]) | (rw [if_neg (by omega), if_neg (by omega), if_pos (by omega)]) | (rw [if_neg (by omega), if_neg (by omega), if_neg (by omega), if_pos (by omega)]) | (rw [if_neg (by omega), if_neg (by omega), if_neg (by omega), if_neg (by omega)]) | (rw [if_neg (by omega), if_neg (by omega), if_neg (by omega)])⟩
        · try simp only [Int32.lt_iff_toInt_lt, Int32.le_iff_toInt_le, ← Int32.toInt_inj, Int32.toInt_toInt64, tiA, tlA] at c62
          have hi81 : vp_in ((60 * a1) + a2) 360 := vp_of (by first | omega | ((try simp only [Int32.lt_iff_toInt_lt, Int32.le_iff_toInt_le, ← Int32.toInt_inj, Int32.toInt_toInt64, tiA, tlA]); omega) | (split <;> omega)) (by first | omega | ((try simp only [Int32.lt_iff_toInt_lt, Int32.le_iff_toInt_le, ← Int32.toInt_inj, Int32.toInt_toInt64, tiA, tlA]); omega) | (split <;> omega))
          refine ⟨hi81, ?_⟩
          have hz82 := vlt hi81
          intro lg83 em84
          have hI85 : I9 lg83 it0 := by rw [em84]; exact i9_l hI (by decide) (by decide) (by decide)
          have hK86 : Kd (fun j => j = 520) (fun k => False) lg0 it0 lg83 it0 := by rw [em84]; exact kd_lr (by decide) (by first | decide | (dsimp only; decide) | omega | (dsimp only; omega)) hKr
          subst hp
          exact ⟨⟨hI85, hK86⟩, by unfold itemA; first | (rw [if_pos (by omega)]) | (rw [if_neg (by omega), if_pos (by omega)]) | (rw [if_neg (by omega), if_neg (by omega), if_pos (by omega)]) | (rw [if_neg (by omega), if_neg (by omega), if_neg (by omega), if_pos (by omega)]) | (rw [if_neg (by omega), if_neg (by omega), if_neg (by omega), if_neg (by omega)]) | (rw [if_neg (by omega), if_neg (by omega), if_neg (by omega)])⟩
      · try simp only [Int32.lt_iff_toInt_lt, Int32.le_iff_toInt_le, ← Int32.toInt_inj, Int32.toInt_toInt64, tiA, tlA] at c36
        subst hp
        exact ⟨⟨hI, hKr⟩, by unfold itemA; first | (rw [if_pos (by omega)]) | (rw [if_neg (by omega), if_pos (by omega)]) | (rw [if_neg (by omega), if_neg (by omega), if_pos (by omega)]) | (rw [if_neg (by omega), if_neg (by omega), if_neg (by omega), if_pos (by omega)]) | (rw [if_neg (by omega), if_neg (by omega), if_neg (by omega), if_neg (by omega)]) | (rw [if_neg (by omega), if_neg (by omega), if_neg (by omega)])⟩
    · try simp only [Int32.lt_iff_toInt_lt, Int32.le_iff_toInt_le, ← Int32.toInt_inj, Int32.toInt_toInt64, tiA, tlA] at c15
      subst hp
      exact ⟨⟨hI, hKr⟩, by unfold itemA; first | (rw [if_pos (by omega)]) | (rw [if_neg (by omega), if_pos (by omega)]) | (rw [if_neg (by omega), if_neg (by omega), if_pos (by omega)]) | (rw [if_neg (by omega), if_neg (by omega), if_neg (by omega), if_pos (by omega)]) | (rw [if_neg (by omega), if_neg (by omega), if_neg (by omega), if_neg (by omega)]) | (rw [if_neg (by omega), if_neg (by omega), if_neg (by omega)])⟩
  · try simp only [Int32.lt_iff_toInt_lt, Int32.le_iff_toInt_le, ← Int32.toInt_inj, Int32.toInt_toInt64, tiA, tlA] at c4
    subst hp
    exact ⟨⟨hI, hKr⟩, by unfold itemA; first | (rw [if_pos (by omega)]) | (rw [if_neg (by omega), if_pos (by omega)]) | (rw [if_neg (by omega), if_neg (by omega), if_pos (by omega)]) | (rw [if_neg (by omega), if_neg (by omega), if_neg (by omega), if_pos (by omega)]) | (rw [if_neg (by omega), if_neg (by omega), if_neg (by omega), if_neg (by omega)]) | (rw [if_neg (by omega), if_neg (by omega), if_neg (by omega)])⟩
set_option maxRecDepth 100000 in
theorem t_X9_shift (a1 : Int32) (a2 : Int32) (a3 : Int32) (a4 : Int32) (a5 : Int32) {lg0 : LGt} {it0 : ITt} (hI : I9 lg0 it0) : w_X9_shift a1 a2 a3 a4 a5 (fun (v : Int32) (lg' : LGt) (it' : ITt) => (I9 lg' it' ∧ Kd (fun j => j = 520 ∨ j = 521) (fun k => False) lg0 it0 lg' it') ∧ (v = shiftA a1 a2 a3 a4 a5 (it0 518 a1.toNatClampNeg) (it0 519 a1.toNatClampNeg) (it0 518 a3.toNatClampNeg) (it0 519 a3.toNatClampNeg)))  lg0 it0 := by
  have hb_a1 := And.intro a1.le_toInt a1.toInt_lt
  have hb_a2 := And.intro a2.le_toInt a2.toInt_lt
  have hb_a3 := And.intro a3.le_toInt a3.toInt_lt
  have hb_a4 := And.intro a4.le_toInt a4.toInt_lt
  have hb_a5 := And.intro a5.le_toInt a5.toInt_lt
  have hKr : Kd (fun j => j = 520 ∨ j = 521) (fun k => False) lg0 it0 lg0 it0 := kd_r
  generalize hp : (fun (v : Int32) (lg' : LGt) (it' : ITt) => (I9 lg' it' ∧ Kd (fun j => j = 520 ∨ j = 521) (fun k => False) lg0 it0 lg' it') ∧ (v = shiftA a1 a2 a3 a4 a5 (it0 518 a1.toNatClampNeg) (it0 519 a1.toNatClampNeg) (it0 518 a3.toNatClampNeg) (it0 519 a3.toNatClampNeg))) = Pz
  unfold w_X9_shift
  have t0 := ti_0
  have t9 := ti_9
  have tm1 := ti_m1
  have b1 := i9_f hI (j := 519) (k := a1.toNatClampNeg) rfl
  have b3 := i9_f hI (j := 519) (k := a3.toNatClampNeg) rfl
  refine ⟨fun c4 => ?_, fun c4 => ?_⟩
  · try simp only [Int32.lt_iff_toInt_lt, Int32.le_iff_toInt_le, ← Int32.toInt_inj, Int32.toInt_toInt64, tiA, tlA] at c4
    subst hp
    exact ⟨⟨hI, hKr⟩, by unfold shiftA; first | (rw [if_pos (by omega)]) | (rw [if_neg (by omega), if_pos (by omega)]) | (rw [if_neg (by omega), if_neg (by omega), if_pos (by omega)]) | (rw [if_neg (by omega), if_neg (by omega), if_neg (by omega), if_pos (by omega)]) | (rw [if_neg (by omega), if_neg (by omega), if_neg (by omega), if_neg (by omega)]) | (rw [if_neg (by omega), if_neg (by omega), if_neg (by omega)])⟩
  · try simp only [Int32.lt_iff_toInt_lt, Int32.le_iff_toInt_le, ← Int32.toInt_inj, Int32.toInt_toInt64, tiA, tlA] at c4
    refine ⟨fun c11 => ?_, fun c11 => ?_⟩
    · try simp only [Int32.lt_iff_toInt_lt, Int32.le_iff_toInt_le, ← Int32.toInt_inj, Int32.toInt_toInt64, tiA, tlA] at c11
      have hi47 : vp_in a1 6 := vp_of (by first | omega | ((try simp only [Int32.lt_iff_toInt_lt, Int32.le_iff_toInt_le, ← Int32.toInt_inj, Int32.toInt_toInt64, tiA, tlA]); omega) | (split <;> omega)) (by first | omega | ((try simp only [Int32.lt_iff_toInt_lt, Int32.le_iff_toInt_le, ← Int32.toInt_inj, Int32.toInt_toInt64, tiA, tlA]); omega) | (split <;> omega))
      refine ⟨hi47, ?_⟩
      have hz48 := vlt hi47
      refine ⟨fun c22 => ?_, fun c22 => ?_⟩
      · try simp only [Int32.lt_iff_toInt_lt, Int32.le_iff_toInt_le, ← Int32.toInt_inj, Int32.toInt_toInt64, tiA, tlA] at c22
        subst hp
        exact ⟨⟨hI, hKr⟩, by unfold shiftA; first | (rw [if_pos (by omega)]) | (rw [if_neg (by omega), if_pos (by omega)]) | (rw [if_neg (by omega), if_neg (by omega), if_pos (by omega)]) | (rw [if_neg (by omega), if_neg (by omega), if_neg (by omega), if_pos (by omega)]) | (rw [if_neg (by omega), if_neg (by omega), if_neg (by omega), if_neg (by omega)]) | (rw [if_neg (by omega), if_neg (by omega), if_neg (by omega)])⟩
      · try simp only [Int32.lt_iff_toInt_lt, Int32.le_iff_toInt_le, ← Int32.toInt_inj, Int32.toInt_toInt64, tiA, tlA] at c22
        have hi49 : vp_in a3 6 := vp_of (by first | omega | ((try simp only [Int32.lt_iff_toInt_lt, Int32.le_iff_toInt_le, ← Int32.toInt_inj, Int32.toInt_toInt64, tiA, tlA]); omega) | (split <;> omega)) (by first | omega | ((try simp only [Int32.lt_iff_toInt_lt, Int32.le_iff_toInt_le, ← Int32.toInt_inj, Int32.toInt_toInt64, tiA, tlA]); omega) | (split <;> omega))
        refine ⟨hi49, ?_⟩
        have hz50 := vlt hi49
        refine ⟨fun c31 => ?_, fun c31 => ?_⟩
        · try simp only [Int32.lt_iff_toInt_lt, Int32.le_iff_toInt_le, ← Int32.toInt_inj, Int32.toInt_toInt64, tiA, tlA] at c31
          have hi51 : vp_in a1 6 := vp_of (by first | omega | ((try simp only [Int32.lt_iff_toInt_lt, Int32.le_iff_toInt_le, ← Int32.toInt_inj, Int32.toInt_toInt64, tiA, tlA]); omega) | (split <;> omega)) (by first | omega | ((try simp only [Int32.lt_iff_toInt_lt, Int32.le_iff_toInt_le, ← Int32.toInt_inj, Int32.toInt_toInt64, tiA, tlA]); omega) | (split <;> omega))
          refine ⟨hi51, ?_⟩
          have hz52 := vlt hi51
          have hi53 : vp_in a3 6 := vp_of (by first | omega | ((try simp only [Int32.lt_iff_toInt_lt, Int32.le_iff_toInt_le, ← Int32.toInt_inj, Int32.toInt_toInt64, tiA, tlA]); omega) | (split <;> omega)) (by first | omega | ((try simp only [Int32.lt_iff_toInt_lt, Int32.le_iff_toInt_le, ← Int32.toInt_inj, Int32.toInt_toInt64, tiA, tlA]); omega) | (split <;> omega))
          refine ⟨hi53, ?_⟩
          have hz54 := vlt hi53
          refine ⟨fun c49 => ?_, fun c49 => ?_⟩
          · try simp only [Int32.lt_iff_toInt_lt, Int32.le_iff_toInt_le, ← Int32.toInt_inj, Int32.toInt_toInt64, tiA, tlA] at c49
            refine ⟨fun c57 => ?_, fun c57 => ?_⟩
            · try simp only [Int32.lt_iff_toInt_lt, Int32.le_iff_toInt_le, ← Int32.toInt_inj, Int32.toInt_toInt64, tiA, tlA] at c57
              subst hp
              exact ⟨⟨hI, hKr⟩, by unfold shiftA; first | (rw [if_pos (by omega)]) | (rw [if_neg (by omega), if_pos (by omega)]) | (rw [if_neg (by omega), if_neg (by omega), if_pos (by omega)]) | (rw [if_neg (by omega), if_neg (by omega), if_neg (by omega), if_pos (by omega)]) | (rw [if_neg (by omega), if_neg (by omega), if_neg (by omega), if_neg (by omega)]) | (rw [if_neg (by omega), if_neg (by omega), if_neg (by omega)])⟩
            · try simp only [Int32.lt_iff_toInt_lt, Int32.le_iff_toInt_le, ← Int32.toInt_inj, Int32.toInt_toInt64, tiA, tlA] at c57
              refine ⟨fun c61 => ?_, fun c61 => ?_⟩
              · try simp only [Int32.lt_iff_toInt_lt, Int32.le_iff_toInt_le, ← Int32.toInt_inj, Int32.toInt_toInt64, tiA, tlA] at c61
                subst hp
                exact ⟨⟨hI, hKr⟩, by unfold shiftA; first | (rw [if_pos (by omega)]) | (rw [if_neg (by omega), if_pos (by omega)]) | (rw [if_neg (by omega), if_neg (by omega), if_pos (by omega)]) | (rw [if_neg (by omega), if_neg (by omega), if_neg (by omega), if_pos (by omega)]) | (rw [if_neg (by omega), if_neg (by omega), if_neg (by omega), if_neg (by omega)]) | (rw [if_neg (by omega), if_neg (by omega), if_neg (by omega)])⟩
              · try simp only [Int32.lt_iff_toInt_lt, Int32.le_iff_toInt_le, ← Int32.toInt_inj, Int32.toInt_toInt64, tiA, tlA] at c61
                refine ⟨fun c66 => ?_, fun c66 => ?_⟩
                · try simp only [Int32.lt_iff_toInt_lt, Int32.le_iff_toInt_le, ← Int32.toInt_inj, Int32.toInt_toInt64, tiA, tlA] at c66
                  subst hp
                  exact ⟨⟨hI, hKr⟩, by unfold shiftA; first | (rw [if_pos (by omega)]) | (rw [if_neg (by omega), if_pos (by omega)]) | (rw [if_neg (by omega), if_neg (by omega), if_pos (by omega)]) | (rw [if_neg (by omega), if_neg (by omega), if_neg (by omega), if_pos (by omega)]) | (rw [if_neg (by omega), if_neg (by omega), if_neg (by omega), if_neg (by omega)]) | (rw [if_neg (by omega), if_neg (by omega), if_neg (by omega)])⟩
                · try simp only [Int32.lt_iff_toInt_lt, Int32.le_iff_toInt_le, ← Int32.toInt_inj, Int32.toInt_toInt64, tiA, tlA] at c66
                  have hi55 : vp_in a1 6 := vp_of (by first | omega | ((try simp only [Int32.lt_iff_toInt_lt, Int32.le_iff_toInt_le, ← Int32.toInt_inj, Int32.toInt_toInt64, tiA, tlA]); omega) | (split <;> omega)) (by first | omega | ((try simp only [Int32.lt_iff_toInt_lt, Int32.le_iff_toInt_le, ← Int32.toInt_inj, Int32.toInt_toInt64, tiA, tlA]); omega) | (split <;> omega))
                  refine ⟨hi55, ?_⟩
                  have hz56 := vlt hi55
                  have f57 : 0 ≤ (it0 519 a1.toNatClampNeg).toInt ∧ (it0 519 a1.toNatClampNeg).toInt ≤ 60 := i9_f hI (j := 519) (k := a1.toNatClampNeg) rfl
                  try have f58 : (((it0 519 a1.toNatClampNeg) - a2) : Int32).toInt = ((it0 519 a1.toNatClampNeg)).toInt - (a2).toInt := sb32 (a := ((it0 519 a1.toNatClampNeg)).toInt) (b := (a2).toInt) (rfl) (rfl) (by omega) (by omega)
                  refine ⟨fun c79 => ?_, fun c79 => ?_⟩
                  · try simp only [Int32.lt_iff_toInt_lt, Int32.le_iff_toInt_le, ← Int32.toInt_inj, Int32.toInt_toInt64, tiA, tlA] at c79
                    subst hp
                    exact ⟨⟨hI, hKr⟩, by unfold shiftA; first | (rw [if_pos (by omega)]) | (rw [if_neg (by omega), if_pos (by omega)]) | (rw [if_neg (by omega), if_neg (by omega), if_pos (by omega)]) | (rw [if_neg (by omega), if_neg (by omega), if_neg (by omega), if_pos (by omega)]) | (rw [if_neg (by omega), if_neg (by omega), if_neg (by omega), if_neg (by omega)]) | (rw [if_neg (by omega), if_neg (by omega), if_neg (by omega)])⟩
                  · try simp only [Int32.lt_iff_toInt_lt, Int32.le_iff_toInt_le, ← Int32.toInt_inj, Int32.toInt_toInt64, tiA, tlA] at c79
                    have hi59 : vp_in a3 6 := vp_of (by first | omega | ((try simp only [Int32.lt_iff_toInt_lt, Int32.le_iff_toInt_le, ← Int32.toInt_inj, Int32.toInt_toInt64, tiA, tlA]); omega) | (split <;> omega)) (by first | omega | ((try simp only [Int32.lt_iff_toInt_lt, Int32.le_iff_toInt_le, ← Int32.toInt_inj, Int32.toInt_toInt64, tiA, tlA]); omega) | (split <;> omega))
                    refine ⟨hi59, ?_⟩
                    have hz60 := vlt hi59
                    have f61 : 0 ≤ (it0 519 a3.toNatClampNeg).toInt ∧ (it0 519 a3.toNatClampNeg).toInt ≤ 60 := i9_f hI (j := 519) (k := a3.toNatClampNeg) rfl
                    try have f62 : (((it0 519 a3.toNatClampNeg) - a4) : Int32).toInt = ((it0 519 a3.toNatClampNeg)).toInt - (a4).toInt := sb32 (a := ((it0 519 a3.toNatClampNeg)).toInt) (b := (a4).toInt) (rfl) (rfl) (by omega) (by omega)
                    refine ⟨fun c93 => ?_, fun c93 => ?_⟩
                    · try simp only [Int32.lt_iff_toInt_lt, Int32.le_iff_toInt_le, ← Int32.toInt_inj, Int32.toInt_toInt64, tiA, tlA] at c93
                      have lp102 : ∀ (n : Nat) (x6 : Int32) (lg : LGt) (it : ITt), I9 lg it → Kd (fun j => j = 520 ∨ j = 521) (fun k => False) lg0 it0 lg it → ((0 ≤ (x6).toInt)) → (61 - (x6).toInt).toNat < n → w_X9_shift_b102 a1 a2 a3 a4 a5 Pz  n x6 lg it := by
                        intro n102
                        induction n102 with
                        | zero => intro x6 lg it _ _ _ hn; exact absurd hn (Nat.not_lt_zero _)
                        | succ n102 ih102 =>
                          intro x6 lg65 it66 hI63 hK64 hv hn
                          unfold w_X9_shift_b102
                          have hv102_0 := hv
                          refine ⟨fun c106 => ?_, fun c106 => ?_⟩
                          · try simp only [Int32.lt_iff_toInt_lt, Int32.le_iff_toInt_le, ← Int32.toInt_inj, Int32.toInt_toInt64, tiA, tlA] at c106
                            have lp139 : ∀ (n : Nat) (x6 : Int32) (lg : LGt) (it : ITt), I9 lg it → Kd (fun j => j = 520 ∨ j = 521) (fun k => False) lg0 it0 lg it → ((0 ≤ (x6).toInt)) → (61 - (x6).toInt).toNat < n → w_X9_shift_b139 a1 a2 a3 a4 a5 Pz  n x6 lg it := by
                              intro n139
                              induction n139 with
                              | zero => intro x6 lg it _ _ _ hn; exact absurd hn (Nat.not_lt_zero _)
                              | succ n139 ih139 =>
                                intro x6 lg69 it70 hI67 hK68 hv hn
                                unfold w_X9_shift_b139
                                have hv139_0 := hv
                                refine ⟨fun c143 => ?_, fun c143 => ?_⟩
                                · try simp only [Int32.lt_iff_toInt_lt, Int32.le_iff_toInt_le, ← Int32.toInt_inj, Int32.toInt_toInt64, tiA, tlA] at c143
                                  subst hp
                                  exact ⟨⟨hI67, hK68⟩, by unfold shiftA; first | (rw [if_pos (by omega)]) | (rw [if_neg (by omega), if_pos (by omega)]) | (rw [if_neg (by omega), if_neg (by omega), if_pos (by omega)]) | (rw [if_neg (by omega), if_neg (by omega), if_neg (by omega), if_pos (by omega)]) | (rw [if_neg (by omega), if_neg (by omega), if_neg (by omega), if_neg (by omega)]) | (rw [if_neg (by omega), if_neg (by omega), if_neg (by omega)])⟩
                                · try simp only [Int32.lt_iff_toInt_lt, Int32.le_iff_toInt_le, ← Int32.toInt_inj, Int32.toInt_toInt64, tiA, tlA] at c143
                                  try have f71 : ((60 * a3) : Int32).toInt = 60 * (a3).toInt := ml32 (a := 60) (b := (a3).toInt) (ti_60) (rfl) (by omega) (by omega)
                                  try have f72 : (((60 * a3) + a4) : Int32).toInt = ((60 * a3)).toInt + (a4).toInt := ad32 (a := ((60 * a3)).toInt) (b := (a4).toInt) (rfl) (rfl) (by omega) (by omega)
                                  try have f73 : ((((60 * a3) + a4) + x6) : Int32).toInt = (((60 * a3) + a4)).toInt + (x6).toInt := ad32 (a := (((60 * a3) + a4)).toInt) (b := (x6).toInt) (rfl) (rfl) (by omega) (by omega)
                                  have hi74 : vp_in x6 60 := vp_of (by first | omega | ((try simp only [Int32.lt_iff_toInt_lt, Int32.le_iff_toInt_le, ← Int32.toInt_inj, Int32.toInt_toInt64, tiA, tlA]); omega) | (split <;> omega)) (by first | omega | ((try simp only [Int32.lt_iff_toInt_lt, Int32.le_iff_toInt_le, ← Int32.toInt_inj, Int32.toInt_toInt64, tiA, tlA]); omega) | (split <;> omega))
                                  refine ⟨hi74, ?_⟩
                                  have hz75 := vlt hi74
                                  have hi76 : vp_in (((60 * a3) + a4) + x6) 360 := vp_of (by first | omega | ((try simp only [Int32.lt_iff_toInt_lt, Int32.le_iff_toInt_le, ← Int32.toInt_inj, Int32.toInt_toInt64, tiA, tlA]); omega) | (split <;> omega)) (by first | omega | ((try simp only [Int32.lt_iff_toInt_lt, Int32.le_iff_toInt_le, ← Int32.toInt_inj, Int32.toInt_toInt64, tiA, tlA]); omega) | (split <;> omega))
                                  refine ⟨hi76, ?_⟩
                                  have hz77 := vlt hi76
                                  intro lg78 em79
                                  have hI80 : I9 lg78 it70 := by rw [em79]; exact i9_l hI67 (by decide) (by decide) (by decide)
                                  have hK81 : Kd (fun j => j = 520 ∨ j = 521) (fun k => False) lg0 it0 lg78 it70 := by rw [em79]; exact kd_lr (by decide) (by first | decide | (dsimp only; decide) | omega | (dsimp only; omega)) hK68
                                  try have f82 : ((x6 + 1) : Int32).toInt = (x6).toInt + 1 := ad32 (a := (x6).toInt) (b := 1) (rfl) (ti_1) (by omega) (by omega)
                                  exact ih139 ((x6 + 1)) _ _ hI80 hK81 (by first | exact Nx_0 | omega | assumption) (by omega)
                            have t83 := ti_0
                            exact ⟨_, lp139 ((61 - ((0 : Int32)).toInt).toNat + 1) ((0 : Int32)) _ _ hI63 hK64 (by first | exact Nx_0 | omega | assumption) (Nat.lt_succ_self _)⟩
                          · try simp only [Int32.lt_iff_toInt_lt, Int32.le_iff_toInt_le, ← Int32.toInt_inj, Int32.toInt_toInt64, tiA, tlA] at c106
                            try have f84 : ((60 * a1) : Int32).toInt = 60 * (a1).toInt := ml32 (a := 60) (b := (a1).toInt) (ti_60) (rfl) (by omega) (by omega)
                            try have f85 : (((60 * a1) + a2) : Int32).toInt = ((60 * a1)).toInt + (a2).toInt := ad32 (a := ((60 * a1)).toInt) (b := (a2).toInt) (rfl) (rfl) (by omega) (by omega)
                            try have f86 : ((((60 * a1) + a2) + x6) : Int32).toInt = (((60 * a1) + a2)).toInt + (x6).toInt := ad32 (a := (((60 * a1) + a2)).toInt) (b := (x6).toInt) (rfl) (rfl) (by omega) (by omega)
                            have hi87 : vp_in (((60 * a1) + a2) + x6) 360 := vp_of (by first | omega | ((try simp only [Int32.lt_iff_toInt_lt, Int32.le_iff_toInt_le, ← Int32.toInt_inj, Int32.toInt_toInt64, tiA, tlA]); omega) | (split <;> omega)) (by first | omega | ((try simp only [Int32.lt_iff_toInt_lt, Int32.le_iff_toInt_le, ← Int32.toInt_inj, Int32.toInt_toInt64, tiA, tlA]); omega) | (split <;> omega))
                            refine ⟨hi87, ?_⟩
                            have hz88 := vlt hi87
                            have hi89 : vp_in x6 60 := vp_of (by first | omega | ((try simp only [Int32.lt_iff_toInt_lt, Int32.le_iff_toInt_le, ← Int32.toInt_inj, Int32.toInt_toInt64, tiA, tlA]); omega) | (split <;> omega)) (by first | omega | ((try simp only [Int32.lt_iff_toInt_lt, Int32.le_iff_toInt_le, ← Int32.toInt_inj, Int32.toInt_toInt64, tiA, tlA]); omega) | (split <;> omega))
                            refine ⟨hi89, ?_⟩
                            have hz90 := vlt hi89
                            intro lg91 em92
                            have hI93 : I9 lg91 it66 := by rw [em92]; exact i9_l hI63 (by decide) (by decide) (by decide)
                            have hK94 : Kd (fun j => j = 520 ∨ j = 521) (fun k => False) lg0 it0 lg91 it66 := by rw [em92]; exact kd_lr (by decide) (by first | decide | (dsimp only; decide) | omega | (dsimp only; omega)) hK64
                            try have f95 : ((x6 + 1) : Int32).toInt = (x6).toInt + 1 := ad32 (a := (x6).toInt) (b := 1) (rfl) (ti_1) (by omega) (by omega)
                            exact ih102 ((x6 + 1)) _ _ hI93 hK94 (by first | exact Nx_0 | omega | assumption) (by omega)
                      have t96 := ti_0
                      exact ⟨_, lp102 ((61 - ((0 : Int32)).toInt).toNat + 1) ((0 : Int32)) _ _ hI hKr (by first | exact Nx_0 | omega | assumption) (Nat.lt_succ_self _)⟩
                    · try simp only [Int32.lt_iff_toInt_lt, Int32.le_iff_toInt_le, ← Int32.toInt_inj, Int32.toInt_toInt64, tiA, tlA] at c93
                      subst hp
                      exact ⟨⟨hI, hKr⟩, by unfold shiftA; first | (rw [if_pos (by omega)]) | (rw [if_neg (by omega), if_pos (by omega)]) | (rw [if_neg (by omega), if_neg (by omega), if_pos (by omega)]) | (rw [if_neg (by omega), if_neg (by omega), if_neg (by omega), if_pos (by omega)]) | (rw [if_neg (by omega), if_neg (by omega), if_neg (by omega), if_neg (by omega)]) | (rw [if_neg (by omega), if_neg (by omega), if_neg (by omega)])⟩
          · try simp only [Int32.lt_iff_toInt_lt, Int32.le_iff_toInt_le, ← Int32.toInt_inj, Int32.toInt_toInt64, tiA, tlA] at c49
            subst hp
            exact ⟨⟨hI, hKr⟩, by unfold shiftA; first | (rw [if_pos (by omega)]) | (rw [if_neg (by omega), if_pos (by omega)]) | (rw [if_neg (by omega), if_neg (by omega), if_pos (by omega)]) | (rw [if_neg (by omega), if_neg (by omega), if_neg (by omega), if_pos (by omega)]) | (rw [if_neg (by omega), if_neg (by omega), if_neg (by omega), if_neg (by omega)]) | (rw [if_neg (by omega), if_neg (by omega), if_neg (by omega)])⟩
        · try simp only [Int32.lt_iff_toInt_lt, Int32.le_iff_toInt_le, ← Int32.toInt_inj, Int32.toInt_toInt64, tiA, tlA] at c31
          subst hp
          exact ⟨⟨hI, hKr⟩, by unfold shiftA; first | (rw [if_pos (by omega)]) | (rw [if_neg (by omega), if_pos (by omega)]) | (rw [if_neg (by omega), if_neg (by omega), if_pos (by omega)]) | (rw [if_neg (by omega), if_neg (by omega), if_neg (by omega), if_pos (by omega)]) | (rw [if_neg (by omega), if_neg (by omega), if_neg (by omega), if_neg (by omega)]) | (rw [if_neg (by omega), if_neg (by omega), if_neg (by omega)])⟩
    · try simp only [Int32.lt_iff_toInt_lt, Int32.le_iff_toInt_le, ← Int32.toInt_inj, Int32.toInt_toInt64, tiA, tlA] at c11
      subst hp
      exact ⟨⟨hI, hKr⟩, by unfold shiftA; first | (rw [if_pos (by omega)]) | (rw [if_neg (by omega), if_pos (by omega)]) | (rw [if_neg (by omega), if_neg (by omega), if_pos (by omega)]) | (rw [if_neg (by omega), if_neg (by omega), if_neg (by omega), if_pos (by omega)]) | (rw [if_neg (by omega), if_neg (by omega), if_neg (by omega), if_neg (by omega)]) | (rw [if_neg (by omega), if_neg (by omega), if_neg (by omega)])⟩
