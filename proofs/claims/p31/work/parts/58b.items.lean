/-! the tapes' items: the same on both sides -/
def f8 (lg : LGt) : Nat → Nat → Int64 := fun t k => lg (474 + 2 * t + 1) k
def f9 (lg : LGt) : Nat → Nat → Int64 := fun t k => lg 520 (60 * t + k)
def EqI (f g : Nat → Nat → Int64) : Prop := ∀ t k : Nat, t < 6 → k < 60 → f t k = g t k
def RC (lg : LGt) (it : ITt) : Prop := RT it ∧ (∀ t : Nat, t < 6 → (it 518 t).toInt ≤ 4) ∧ EqI (f8 lg) (f9 lg)
theorem RC_0 : RC LG0 IT0 := by
  refine ⟨RT_0, by decide +kernel, fun t k ht hk => ?_⟩
  have h1 : ∀ t, t < 6 → ¬ (LAY (474 + 2 * t + 1)).1 = 1 := by decide +kernel
  have h2 : ¬ (LAY 520).1 = 1 := by decide +kernel
  unfold f8 f9 LG0
  rw [if_neg (fun q => h1 t ht q.1), if_neg (fun q => h2 q.1)]
theorem rc_8 {S : Nat → Prop} {lg lg' : LGt} {it it' : ITt} (h : RC lg it) (hk : Kc S lg it lg' it') (hs : ∀ j, S j → j ≤ 473 ∨ (486 ≤ j ∧ j < 489)) : RC lg' it' := by
  have e (j : Nat) (q : j ≤ 485 ∧ 473 < j ∨ 489 ≤ j) : lg' j = lg j ∧ it' j = it j := hk j (fun z => by have := hs j z; omega)
  refine ⟨rt_8 h.1 hk hs, fun t ht => ?_, fun t k ht hk' => ?_⟩
  · rw [(e 518 (by decide)).2]; exact h.2.1 t ht
  · have z := h.2.2 t k ht hk'
    unfold f8 f9 at z ⊢
    rw [(e (474 + 2 * t + 1) (by omega)).1, (e 520 (by decide)).1]
    exact z
theorem rc_9 {S F : Nat → Prop} {lg lg' : LGt} {it it' : ITt} (h : RC lg it) (hk : Kd S F lg it lg' it') (hs : ∀ j, S j → 489 ≤ j ∧ j ≠ 518 ∧ j ≠ 519 ∧ j ≠ 520) : RC lg' it' := by
  have e (j : Nat) (q : j < 489 ∨ j = 518 ∨ j = 519 ∨ j = 520) : lg' j = lg j ∧ it' j = it j := hk.1 j (by omega) (fun z => by have := hs j z; omega)
  refine ⟨rt_9 h.1 hk (fun j hj => by have := hs j hj; omega), fun t ht => ?_, fun t k ht hk' => ?_⟩
  · rw [(e 518 (by decide)).2]; exact h.2.1 t ht
  · have z := h.2.2 t k ht hk'
    unfold f8 f9 at z ⊢
    rw [(e (474 + 2 * t + 1) (by omega)).1, (e 520 (by decide)).1]
    exact z
/-- tape: all items 0 -/
def TC (v a : Int32) (f f' : Nat → Nat → Int64) : Prop := ∀ t k : Nat, t < 6 → k < 60 → f' t k = if t = a.toNatClampNeg ∧ v = 1 then 0 else f t k
theorem TC_0 {v a : Int32} {f : Nat → Nat → Int64} (h : ¬ v = 1) : TC v a f f := fun t k _ _ => by rw [if_neg (fun q => h q.2)]
theorem TC_8 {a : Int32} {lg lg' : LGt} (e : lg' = fillL lg (474 + 2 * a.toNatClampNeg + 1) 0) : TC 1 a (f8 lg) (f8 lg') := by
  intro t k ht hk
  have hl : ∀ t, t < 6 → (LAY (474 + 2 * t + 1)).2 = 60 := by decide +kernel
  subst e
  unfold f8 fillL
  by_cases q : t = a.toNatClampNeg
  · subst q
    rw [if_pos ⟨rfl, by rw [hl _ ht]; exact hk⟩, if_pos ⟨rfl, rfl⟩]
  · rw [if_neg (fun z => q (by omega)), if_neg (fun z => q z.1)]
/-- the first n items 0 -/
def TP (n : Int) (a : Int32) (f f' : Nat → Nat → Int64) : Prop := ∀ t k : Nat, t < 6 → k < 60 → f' t k = if t = a.toNatClampNeg ∧ (k : Int) < n then 0 else f t k
theorem TP_0 {a : Int32} {f : Nat → Nat → Int64} {n : Int} (h : n = 0) : TP n a f f := fun t k _ _ => by rw [if_neg (fun q => by omega)]
theorem TP_s {a i x x' : Int32} {f : Nat → Nat → Int64} {lg1 lg2 : LGt} (e : lg2 = u2 lg1 520 i.toNatClampNeg 0) (h : TP x.toInt a f (f9 lg1)) (hi : i.toInt = 60 * a.toInt + x.toInt) (hx : x'.toInt = x.toInt + 1) (ha : 0 ≤ a.toInt) (h0 : 0 ≤ x.toInt) (h6 : x.toInt < 60) : TP x'.toInt a f (f9 lg2) := by
  intro t k ht hk
  have z := h t k ht hk
  have n1 := cl32 (i := i) (by omega)
  have n2 := cl32 (i := a) ha
  subst e
  unfold f9 at z ⊢
  unfold u2
  by_cases q : 60 * t + k = i.toNatClampNeg
  · rw [if_pos ⟨rfl, q⟩, if_pos ⟨by omega, by omega⟩]
  · rw [if_neg (fun w => q w.2), z]
    by_cases w : t = a.toNatClampNeg ∧ (k : Int) < x.toInt
    · rw [if_pos w, if_pos ⟨w.1, by omega⟩]
    · rw [if_neg w, if_neg (fun w' => w ⟨w'.1, by have := w'.1; subst this; omega⟩)]
theorem TC_9 {n : Int} {a : Int32} {f f' : Nat → Nat → Int64} (h : TP n a f f') (hn : 60 ≤ n) : TC 1 a f f' := by
  intro t k ht hk
  rw [h t k ht hk]
  by_cases q : t = a.toNatClampNeg
  · rw [if_pos ⟨q, by omega⟩, if_pos ⟨q, rfl⟩]
  · rw [if_neg (fun z => q z.1), if_neg (fun z => q z.1)]
/-- item: one item other -/
def cutA (s : Int32) (w : Int64) : Int64 := if s.toInt = 0 then w.toInt32.toInt8.toInt32.toInt64 else if s.toInt = 1 then w.toInt32.toInt16.toInt32.toInt64 else if s.toInt = 2 then w.toInt32.toInt64 else if s.toInt = 3 then w else if w = 0 then 0 else 1
def IC (v a b : Int32) (x : Int64) (f f' : Nat → Nat → Int64) : Prop := ∀ t k : Nat, t < 6 → k < 60 → f' t k = if t = a.toNatClampNeg ∧ k = b.toNatClampNeg ∧ v = 1 then x else f t k
theorem IC_0 {v a b : Int32} {x : Int64} {f : Nat → Nat → Int64} (h : ¬ v = 1) : IC v a b x f f := fun t k _ _ => by rw [if_neg (fun q => h q.2.2)]
theorem IC_8 {a b : Int32} {x y : Int64} {lg lg0 lg' : LGt} (e : lg' = u2 lg (474 + 2 * a.toNatClampNeg + 1) b.toNatClampNeg y) (hl : lg (474 + 2 * a.toNatClampNeg + 1) = lg0 (474 + 2 * a.toNatClampNeg + 1) ∧ EqI (f8 lg) (f8 lg0)) (h : y = x) : IC 1 a b x (f8 lg0) (f8 lg') := by
  intro t k ht hk
  subst e h
  have z := hl.2 t k ht hk
  unfold f8 at z ⊢
  unfold u2
  by_cases q : t = a.toNatClampNeg ∧ k = b.toNatClampNeg
  · rw [if_pos ⟨by omega, q.2⟩, if_pos ⟨q.1, q.2, rfl⟩]
  · rw [if_neg (fun w => q ⟨by omega, w.2⟩), if_neg (fun w => q ⟨w.1, w.2.1⟩)]
    exact z
theorem IC_9 {a b i : Int32} {x y : Int64} {lg lg' : LGt} (e : lg' = u2 lg 520 i.toNatClampNeg y) (hi : i.toInt = 60 * a.toInt + b.toInt) (ha : 0 ≤ a.toInt) (hb : 0 ≤ b.toInt ∧ b.toInt < 60) (h : y = x) : IC 1 a b x (f9 lg) (f9 lg') := by
  intro t k ht hk
  subst e h
  have n1 := cl32 (i := i) (by omega)
  have n2 := cl32 (i := a) ha
  have n3 := cl32 (i := b) hb.1
  unfold f9 u2
  by_cases q : t = a.toNatClampNeg ∧ k = b.toNatClampNeg
  · rw [if_pos ⟨rfl, by omega⟩, if_pos ⟨q.1, q.2, rfl⟩]
  · rw [if_neg (fun w => q (by have := w.2; omega)), if_neg (fun w => q ⟨w.1, w.2.1⟩)]
/-- shift: n items copied, as they were before -/
def SC_ (v a b c d n : Int32) (f f' : Nat → Nat → Int64) : Prop := ∀ t k : Nat, t < 6 → k < 60 → f' t k = if t = c.toNatClampNeg ∧ d.toInt ≤ (k : Int) ∧ (k : Int) < d.toInt + n.toInt ∧ 0 ≤ v.toInt then f a.toNatClampNeg (b.toNatClampNeg + (k - d.toNatClampNeg)) else f t k
