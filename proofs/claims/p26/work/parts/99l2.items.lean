/-! the tapes' items: the same on both sides -/
def f8 (lg : LGt) : Nat → Nat → Int64 := fun t k => lg (474 + 2 * t + 1) k
def f9 (lg : LGt) : Nat → Nat → Int64 := fun t k => lg 520 (60 * t + k)
def EqI (f g : Nat → Nat → Int64) : Prop := ∀ t k : Nat, t < 6 → k < 60 → f t k = g t k
def RC (lg : LGt) (it : ITt) : Prop := RT it ∧ (∀ t : Nat, t < 6 → (it 518 t).toInt ≤ 4) ∧ EqI (f8 lg) (f9 lg)
theorem RC_0 : RC LG0 IT0 := by
  refine ⟨RT_0, by decide +kernel, fun t k ht hk => ?_⟩
  have h1 : ∀ t, t < 6 → ¬ (LAY (474 + 2 * t + 1)).1 = 1 := by decide +kernel
  have h2 : ¬ (LAY 520).1 = 1 := by decide +kernel
  unfold f8 f9 LG0
  rw [if_neg (fun q => h1 t ht q.1), if_neg (fun q => h2 q.1)]
theorem rc_8 {S : Nat → Prop} {lg lg' : LGt} {it it' : ITt} (h : RC lg it) (hk : Kc S lg it lg' it') (hs : ∀ j, S j → j ≤ 473 ∨ (486 ≤ j ∧ j < 489)) : RC lg' it' := by
  have e (j : Nat) (q : j ≤ 485 ∧ 473 < j ∨ 489 ≤ j) : lg' j = lg j ∧ it' j = it j := hk j (fun z => by have := hs j z; omega)
  refine ⟨rt_8 h.1 hk hs, fun t ht => ?_, fun t k ht hk' => ?_⟩
  · rw [(e 518 (by decide)).2]; exact h.2.1 t ht
  · have z := h.2.2 t k ht hk'
    unfold f8 f9 at z ⊢
    rw [(e (474 + 2 * t + 1) (by omega)).1, (e 520 (by decide)).1]
    exact z
theorem rc_9 {S F : Nat → Prop} {lg lg' : LGt} {it it' : ITt} (h : RC lg it) (hk : Kd S F lg it lg' it') (hs : ∀ j, S j → 489 ≤ j ∧ j ≠ 518 ∧ j ≠ 519 ∧ j ≠ 520) : RC lg' it' := by
  have e (j : Nat) (q : j < 489 ∨ j = 518 ∨ j = 519 ∨ j = 520) : lg' j = lg j ∧ it' j = it j := hk.1 j (by omega) (fun z => by have := hs j z; omega)
  refine ⟨rt_9 h.1 hk (fun j hj => by have := hs j hj; omega), fun t ht => ?_, fun t k ht hk' => ?_⟩
  · rw [(e 518 (by decide)).2]; exact h.2.1 t ht
  · have z := h.2.2 t k ht hk'
    unfold f8 f9 at z ⊢
    rw [(e (474 + 2 * t + 1) (by omega)).1, (e 520 (by decide)).1]
    exact z
/-- tape: all items 0 -/
def TC (v a : Int32) (f f' : Nat → Nat → Int64) : Prop := ∀ t k : Nat, t < 6 → k < 60 → f' t k = if t = a.toNatClampNeg ∧ v = 1 then 0 else f t k
theorem TC_0 {v a : Int32} {f : Nat → Nat → Int64} (h : ¬ v = 1) : TC v a f f := fun t k _ _ => by rw [if_neg (fun q => h q.2)]
theorem TC_8 {a : Int32} {lg lg' : LGt} (e : lg' = fillL lg (474 + 2 * a.toNatClampNeg + 1) 0) : TC 1 a (f8 lg) (f8 lg') := by
  intro t k ht hk
  have hl : ∀ t, t < 6 → (LAY (474 + 2 * t + 1)).2 = 60 := by decide +kernel
  subst e
  unfold f8 fillL
  by_cases q : t = a.toNatClampNeg
  · subst q
    rw [if_pos ⟨rfl, by rw [hl _ ht]; exact hk⟩, if_pos ⟨rfl, rfl⟩]
  · rw [if_neg (fun z => q (by omega)), if_neg (fun z => q z.1)]
/-- the first n items 0 -/
def TP (n : Int) (a : Int32) (f f' : Nat → Nat → Int64) : Prop := ∀ t k : Nat, t < 6 → k < 60 → f' t k = if t = a.toNatClampNeg ∧ (k : Int) < n then 0 else f t k
theorem TP_0 {a : Int32} {f : Nat → Nat → Int64} {n : Int} (h : n = 0) : TP n a f f := fun t k _ _ => by rw [if_neg (fun q => by omega)]
theorem TP_s {a i x x' : Int32} {f : Nat → Nat → Int64} {lg1 lg2 : LGt} (e : lg2 = u2 lg1 520 i.toNatClampNeg 0) (h : TP x.toInt a f (f9 lg1)) (hi : i.toInt = 60 * a.toInt + x.toInt) (hx : x'.toInt = x.toInt + 1) (ha : 0 ≤ a.toInt) (h0 : 0 ≤ x.toInt) (h6 : x.toInt < 60) : TP x'.toInt a f (f9 lg2) := by
  intro t k ht hk
  have z := h t k ht hk
  have n1 := cl32 (i := i) (by omega)
  have n2 := cl32 (i := a) ha
  subst e
  unfold f9 at z ⊢
  unfold u2
  by_cases q : 60 * t + k = i.toNatClampNeg
  · rw [if_pos ⟨rfl, q⟩, if_pos ⟨by omega, by omega⟩]
  · rw [if_neg (fun w => q w.2), z]
    by_cases w : t = a.toNatClampNeg ∧ (k : Int) < x.toInt
    · rw [if_pos w, if_pos ⟨w.1, by omega⟩]
    · rw [if_neg w, if_neg (fun w' => w ⟨w'.1, by have := w'.1; subst this; omega⟩)]
theorem TC_9 {n : Int} {a : Int32} {f f' : Nat → Nat → Int64} (h : TP n a f f') (hn : 60 ≤ n) : TC 1 a f f' := by
  intro t k ht hk
  rw [h t k ht hk]
  by_cases q : t = a.toNatClampNeg
  · rw [if_pos ⟨q, by omega⟩, if_pos ⟨q, rfl⟩]
  · rw [if_neg (fun z => q z.1), if_neg (fun z => q z.1)]
/-- item: one item other -/
def cutA (s : Int32) (w : Int64) : Int64 := if s.toInt = 0 then w.toInt32.toInt8.toInt32.toInt64 else if s.toInt = 1 then w.toInt32.toInt16.toInt32.toInt64 else if s.toInt = 2 then w.toInt32.toInt64 else if s.toInt = 3 then w else if w = 0 then 0 else 1
def IC (v a b : Int32) (x : Int64) (f f' : Nat → Nat → Int64) : Prop := ∀ t k : Nat, t < 6 → k < 60 → f' t k = if t = a.toNatClampNeg ∧ k = b.toNatClampNeg ∧ v = 1 then x else f t k
theorem IC_0 {v a b : Int32} {x : Int64} {f : Nat → Nat → Int64} (h : ¬ v = 1) : IC v a b x f f := fun t k _ _ => by rw [if_neg (fun q => h q.2.2)]
theorem IC_8 {a b : Int32} {x y : Int64} {lg lg0 lg' : LGt} (e : lg' = u2 lg (474 + 2 * a.toNatClampNeg + 1) b.toNatClampNeg y) (hl : lg (474 + 2 * a.toNatClampNeg + 1) = lg0 (474 + 2 * a.toNatClampNeg + 1) ∧ EqI (f8 lg) (f8 lg0)) (h : y = x) : IC 1 a b x (f8 lg0) (f8 lg') := by
  intro t k ht hk
  subst e h
  have z := hl.2 t k ht hk
  unfold f8 at z ⊢
  unfold u2
  by_cases q : t = a.toNatClampNeg ∧ k = b.toNatClampNeg
  · rw [if_pos ⟨by omega, q.2⟩, if_pos ⟨q.1, q.2, rfl⟩]
  · rw [if_neg (fun w => q ⟨by omega, w.2⟩), if_neg (fun w => q ⟨w.1, w.2.1⟩)]
    exact z
theorem IC_9 {a b i : Int32} {x y : Int64} {lg lg' : LGt} (e : lg' = u2 lg 520 i.toNatClampNeg y) (hi : i.toInt = 60 * a.toInt + b.toInt) (ha : 0 ≤ a.toInt) (hb : 0 ≤ b.toInt ∧ b.toInt < 60) (h : y = x) : IC 1 a b x (f9 lg) (f9 lg') := by
  intro t k ht hk
  subst e h
  have n1 := cl32 (i := i) (by omega)
  have n2 := cl32 (i := a) ha
  have n3 := cl32 (i := b) hb.1
  unfold f9 u2
  by_cases q : t = a.toNatClampNeg ∧ k = b.toNatClampNeg
  · rw [if_pos ⟨rfl, by omega⟩, if_pos ⟨q.1, q.2, rfl⟩]
  · rw [if_neg (fun w => q (by have := w.2; omega)), if_neg (fun w => q ⟨w.1, w.2.1⟩)]
/-- shift: n items copied, as they were before -/
def SC_ (v a b c d n : Int32) (f f' : Nat → Nat → Int64) : Prop := ∀ t k : Nat, t < 6 → k < 60 → f' t k = if t = c.toNatClampNeg ∧ d.toInt ≤ (k : Int) ∧ (k : Int) < d.toInt + n.toInt ∧ 0 ≤ v.toInt then f a.toNatClampNeg (b.toNatClampNeg + (k - d.toNatClampNeg)) else f t k
theorem IC_8c {a b : Int32} {x y : Int64} {lg lg0 lg' : LGt} {it0 it : ITt} (e : lg' = u2 lg (474 + 2 * a.toNatClampNeg + 1) b.toNatClampNeg y) (hk : Kc (fun j => False) lg0 it0 lg it) (h : y = x) : IC 1 a b x (f8 lg0) (f8 lg') :=
  IC_8 e ⟨(hk _ (fun q => q)).1, fun t k _ _ => congrFun (hk _ (fun q => q)).1 k⟩ h
theorem rt_l4 {it : ITt} {a : Int32} (h : ∀ t : Nat, t < 6 → -1 ≤ (it (474 + 2 * t) 0).toInt ∧ (it (474 + 2 * t) 0).toInt ≤ 4) : ¬ (0 ≤ a.toInt ∧ a.toInt ≤ 5) ∨ (-1 ≤ (it (474 + 2 * a.toNatClampNeg) 0).toInt ∧ (it (474 + 2 * a.toNatClampNeg) 0).toInt ≤ 4) := by
  by_cases q : 0 ≤ a.toInt ∧ a.toInt ≤ 5
  · exact Or.inr (h _ (rt_n q))
  · exact Or.inl q
def peekA (a i z : Int32) (x : Int64) : Int64 := if ¬ (0 ≤ a.toInt ∧ a.toInt ≤ 5) then -9223372036854775808 else if ¬ (0 ≤ i.toInt ∧ i.toInt < z.toInt) then -9223372036854775808 else x
theorem pk_n {a i z : Int32} {x : Int64} (h : ¬ (0 ≤ a.toInt ∧ a.toInt ≤ 5) ∨ ¬ (0 ≤ i.toInt ∧ i.toInt < z.toInt)) : (-9223372036854775808 : Int64) = peekA a i z x := by
  unfold peekA
  by_cases q : ¬ (0 ≤ a.toInt ∧ a.toInt ≤ 5)
  · rw [if_pos q]
  · rw [if_neg q, if_pos (by omega)]
theorem pk_8 {a i z : Int32} {lg : LGt} (h : 0 ≤ a.toInt ∧ a.toInt ≤ 5) (h2 : 0 ≤ i.toInt ∧ i.toInt < z.toInt) : lg (474 + 2 * a.toNatClampNeg + 1) i.toNatClampNeg = peekA a i z (f8 lg a.toNatClampNeg i.toNatClampNeg) := by
  unfold peekA
  rw [if_neg (by omega), if_neg (by omega)]
  rfl
theorem pk_9 {a i z j : Int32} {lg : LGt} (h : 0 ≤ a.toInt ∧ a.toInt ≤ 5) (h2 : 0 ≤ i.toInt ∧ i.toInt < z.toInt) (hj : j.toInt = 60 * a.toInt + i.toInt) : lg 520 j.toNatClampNeg = peekA a i z (f9 lg a.toNatClampNeg i.toNatClampNeg) := by
  unfold peekA
  rw [if_neg (by omega), if_neg (by omega)]
  have n1 := cl32 (i := j) (by omega)
  have n2 := cl32 (i := a) h.1
  have n3 := cl32 (i := i) h2.1
  exact congrArg (lg 520) (by omega)
theorem p_X6_renewAs {a0 : Nat} (ha0 : a0 ∈ tb) (a1 : Int32) (a2 : Int32) {lg0 : LGt} {it0 : ITt} (hI : I8 lg0 it0) (hn : 0 ≤ a2.toInt ∧ a2.toInt ≤ 60) : w_X6_renewAs a0 a1 a2 (fun (lg' : LGt) (it' : ITt) => (I8 lg' it' ∧ Kc (fun j => (a0 ≤ j ∧ j < a0 + 2)) lg0 it0 lg' it') ∧ (it' = u2 (u2 it0 a0 0 a1) a0 1 a2 ∧ lg' = fillL lg0 (a0 + 1) 0)) lg0 it0 := by
  have h := s_X6_renewAs ha0 a1 a2 hI hn
  unfold w_X6_renewAs at h ⊢
  intro it1 e1 it3 e3 lg5 e5
  exact ⟨h it1 e1 it3 e3 lg5 e5, by rw [e3, e1], e5⟩
theorem SC_0 {v a b c d n : Int32} {f : Nat → Nat → Int64} (h : ¬ 0 ≤ v.toInt) : SC_ v a b c d n f f := fun t k _ _ => by rw [if_neg (fun q => h q.2.2.2)]
theorem SC_8 {a b c d n : Int32} {lg lg' : LGt} (e : lg' = rcp lg (474 + 2 * a.toNatClampNeg + 1) (474 + 2 * c.toNatClampNeg + 1) b.toNatClampNeg d.toNatClampNeg n.toNatClampNeg) (hd : 0 ≤ d.toInt) (hn : 0 ≤ n.toInt) : SC_ n a b c d n (f8 lg) (f8 lg') := by
  intro t k ht hk
  have n1 := cl32 hd
  have n2 := cl32 hn
  subst e
  unfold f8 rcp va_cpy
  by_cases q : t = c.toNatClampNeg
  · subst q
    rw [if_pos rfl]
    by_cases w : d.toNatClampNeg ≤ k ∧ k < d.toNatClampNeg + n.toNatClampNeg
    · rw [if_pos w, if_pos ⟨rfl, by omega, by omega, hn⟩]
    · rw [if_neg w, if_neg (fun z => w (by omega))]
  · rw [if_neg (fun z => q (by omega)), if_neg (fun z => q z.1)]
/-- the first x moved; the first x laid down -/
def MVi (x a b : Int32) (lg0 lg : LGt) : Prop := ∀ k : Nat, k < 60 → (k : Int) < x.toInt → lg 521 k = lg0 520 (60 * a.toNatClampNeg + b.toNatClampNeg + k)
def LD (x a b c d : Int32) (lg0 lg : LGt) : Prop := ∀ m : Nat, lg 520 m = if 60 * c.toNatClampNeg + d.toNatClampNeg ≤ m ∧ (m : Int) < 60 * c.toInt + d.toInt + x.toInt then lg0 520 (60 * a.toNatClampNeg + b.toNatClampNeg + (m - (60 * c.toNatClampNeg + d.toNatClampNeg))) else lg0 520 m
theorem MVi_0 {x a b : Int32} {lg0 lg : LGt} (h : x.toInt = 0) : MVi x a b lg0 lg := fun k _ q => by omega
theorem MVi_s {x x' a b i : Int32} {lg0 lg lg' : LGt} (e : lg' = u2 lg 521 x.toNatClampNeg (lg 520 i.toNatClampNeg)) (h : MVi x a b lg0 lg) (r : lg 520 = lg0 520) (hi : i.toInt = 60 * a.toInt + b.toInt + x.toInt) (hx : x'.toInt = x.toInt + 1) (ha : 0 ≤ a.toInt) (hb : 0 ≤ b.toInt) (h0 : 0 ≤ x.toInt) : MVi x' a b lg0 lg' := by
  intro k hk hk2
  have n1 := cl32 (i := i) (by omega)
  have n2 := cl32 ha
  have n3 := cl32 hb
  have n4 := cl32 h0
  subst e
  unfold u2
  by_cases q : k = x.toNatClampNeg
  · rw [if_pos ⟨rfl, q⟩, r]
    exact congrArg (lg0 520) (by omega)
  · rw [if_neg (fun w => q w.2)]
    exact h k hk (by omega)
theorem MVi_r {x : Int32} {lg0 lg lg' : LGt} {v : Int64} (e : lg' = u2 lg 521 x.toNatClampNeg v) (r : lg 520 = lg0 520) : lg' 520 = lg0 520 := by rw [e]; exact (u2_row (by decide)).trans r
theorem LD_0 {x a b c d : Int32} {lg0 lg : LGt} (h : x.toInt = 0) (hc : 0 ≤ c.toInt) (hd : 0 ≤ d.toInt) (r : lg 520 = lg0 520) : LD x a b c d lg0 lg := by
  intro m
  have n1 := cl32 hc
  have n2 := cl32 hd
  rw [if_neg (by omega), r]
theorem LD_s {x x' a b c d i n : Int32} {lg0 lg lg' : LGt} (e : lg' = u2 lg 520 i.toNatClampNeg (lg 521 x.toNatClampNeg)) (h : LD x a b c d lg0 lg) (hm : MVi n a b lg0 lg) (hn : x.toInt < n.toInt ∧ x.toInt < 60) (hi : i.toInt = 60 * c.toInt + d.toInt + x.toInt) (hx : x'.toInt = x.toInt + 1) (hc : 0 ≤ c.toInt) (hd : 0 ≤ d.toInt) (h0 : 0 ≤ x.toInt) : LD x' a b c d lg0 lg' := by
  intro m
  have n1 := cl32 (i := i) (by omega)
  have n2 := cl32 hc
  have n3 := cl32 hd
  have n4 := cl32 h0
  have z := h m
  subst e
  unfold u2
  by_cases q : m = i.toNatClampNeg
  · rw [if_pos ⟨rfl, q⟩, if_pos ⟨by omega, by omega⟩, hm x.toNatClampNeg (by omega) (by omega)]
    exact congrArg (lg0 520) (by omega)
  · rw [if_neg (fun w => q w.2), z]
    by_cases w : 60 * c.toNatClampNeg + d.toNatClampNeg ≤ m ∧ (m : Int) < 60 * c.toInt + d.toInt + x.toInt
    · rw [if_pos w, if_pos ⟨w.1, by omega⟩]
    · rw [if_neg w, if_neg (fun w' => w ⟨w'.1, by omega⟩)]
theorem MVi_k {n a b : Int32} {lg0 lg lg' : LGt} {v : Int64} {k : Nat} (e : lg' = u2 lg 520 k v) (h : MVi n a b lg0 lg) : MVi n a b lg0 lg' := fun j h1 h2 => by rw [e, u2_row (by decide)]; exact h j h1 h2
theorem SC_9 {x n a b c d : Int32} {lg0 lg : LGt} (h : LD x a b c d lg0 lg) (hx : x.toInt = n.toInt) (hn : 0 ≤ n.toInt) (ha : 0 ≤ a.toInt) (hc : 0 ≤ c.toInt) (hd : 0 ≤ d.toInt) (hl : d.toInt + n.toInt ≤ 60) : SC_ n a b c d n (f9 lg0) (f9 lg) := by
  intro t k ht hk
  have n2 := cl32 hc
  have n3 := cl32 hd
  unfold f9
  rw [h (60 * t + k)]
  by_cases q : t = c.toNatClampNeg ∧ d.toInt ≤ (k : Int) ∧ (k : Int) < d.toInt + n.toInt
  · rw [if_pos ⟨by omega, by omega⟩, if_pos ⟨q.1, q.2.1, q.2.2, hn⟩]
    exact congrArg (lg0 520) (by omega)
  · rw [if_neg (fun w => q (by omega)), if_neg (fun w => q ⟨w.1, w.2.1, w.2.2.1⟩)]
theorem rc_h {lg : LGt} {it : ITt} (h : RC lg it) : ∀ t : Nat, t < 6 → -1 ≤ (it (474 + 2 * t) 0).toInt ∧ (it (474 + 2 * t) 0).toInt ≤ 4 := fun t ht => by
  obtain ⟨h1, _, h3⟩ := h.1 t ht
  have z := h.2.1 t ht
  rw [h1]
  exact ⟨h3, z⟩
theorem peek_x {lg lg1 : LGt} {it it1 : ITt} {v v' : Int64} {a i : Int32} (h : RC lg it) (kl : lg1 520 = lg 520) (ki : it1 519 = it 519) (e1 : v = peekA a i (it (474 + 2 * a.toNatClampNeg) 1) (f8 lg a.toNatClampNeg i.toNatClampNeg)) (e2 : v' = peekA a i (it1 519 a.toNatClampNeg) (f9 lg1 a.toNatClampNeg i.toNatClampNeg)) (hz : ∀ t, t < 6 → (it 519 t).toInt ≤ 60) : v = v' := by
  unfold f9 at e2
  rw [ki, kl] at e2
  rw [e1, e2]
  by_cases q : 0 ≤ a.toInt ∧ a.toInt ≤ 5
  · rw [(h.1 _ (rt_n q)).2.1]
    by_cases w : 0 ≤ i.toInt ∧ i.toInt < (it 519 a.toNatClampNeg).toInt
    · have n := cl32 w.1
      have z := hz _ (rt_n q)
      rw [h.2.2 a.toNatClampNeg i.toNatClampNeg (rt_n q) (by omega)]
      rfl
    · unfold peekA
      rw [if_neg (not_not_intro q), if_neg (not_not_intro q), if_pos w, if_pos w]
  · unfold peekA
    rw [if_pos q, if_pos q]
set_option maxRecDepth 100000 in
theorem p_X8_tape (a1 : Int32) (a2 : Int32) (a3 : Int32) {lg0 : LGt} {it0 : ITt} (hI : I8 lg0 it0) : w_X8_tape a1 a2 a3 (fun (v : Int32) (lg' : LGt) (it' : ITt) => (I8 lg' it' ∧ Kc (fun j => (473 ≤ j ∧ j < 486)) lg0 it0 lg' it') ∧ (v = tapeA a1 a2 a3 ∧ TS v a1 a2 a3 (fun t => it0 (474 + 2 * t) 0) (fun t => it0 (474 + 2 * t) 1) (fun t => it' (474 + 2 * t) 0) (fun t => it' (474 + 2 * t) 1) ∧ TC v a1 (f8 lg0) (f8 lg')))  lg0 it0 := by
  have hb_a1 := And.intro a1.le_toInt a1.toInt_lt
  have hb_a2 := And.intro a2.le_toInt a2.toInt_lt
  have hb_a3 := And.intro a3.le_toInt a3.toInt_lt
  have hKr : Kc (fun j => (473 ≤ j ∧ j < 486)) lg0 it0 lg0 it0 := kc_r
  generalize hp : (fun (v : Int32) (lg' : LGt) (it' : ITt) => (I8 lg' it' ∧ Kc (fun j => (473 ≤ j ∧ j < 486)) lg0 it0 lg' it') ∧ (v = tapeA a1 a2 a3 ∧ TS v a1 a2 a3 (fun t => it0 (474 + 2 * t) 0) (fun t => it0 (474 + 2 * t) 1) (fun t => it' (474 + 2 * t) 0) (fun t => it' (474 + 2 * t) 1) ∧ TC v a1 (f8 lg0) (f8 lg'))) = Pz
  unfold w_X8_tape
  refine ⟨fun c4 => ?_, fun c4 => ?_⟩
  · try simp only [Int32.lt_iff_toInt_lt, Int32.le_iff_toInt_le, ← Int32.toInt_inj, Int32.toInt_toInt64, tiA, tlA] at c4
    refine ⟨fun c11 => ?_, fun c11 => ?_⟩
    · try simp only [Int32.lt_iff_toInt_lt, Int32.le_iff_toInt_le, ← Int32.toInt_inj, Int32.toInt_toInt64, tiA, tlA] at c11
      subst hp
      exact ⟨⟨hI, hKr⟩, ⟨by first | exact tp_n (by omega) | exact tp_b (by omega) (by omega) | exact tp_s (by omega) (by omega) (by omega) | exact tp_1 (by omega) (by omega) (by omega), by first | exact TS_0 (by decide) | exact TS_8 (by assumption) (by first | exact (if_neg (by omega)).symm | exact (if_pos (by omega)).symm), by first | exact TC_0 (by decide) | exact TC_8 (by assumption)⟩⟩
    · try simp only [Int32.lt_iff_toInt_lt, Int32.le_iff_toInt_le, ← Int32.toInt_inj, Int32.toInt_toInt64, tiA, tlA] at c11
      refine ⟨fun c16 => ?_, fun c16 => ?_⟩
      · try simp only [Int32.lt_iff_toInt_lt, Int32.le_iff_toInt_le, ← Int32.toInt_inj, Int32.toInt_toInt64, tiA, tlA] at c16
        refine ⟨fun c24 => ?_, fun c24 => ?_⟩
        · try simp only [Int32.lt_iff_toInt_lt, Int32.le_iff_toInt_le, ← Int32.toInt_inj, Int32.toInt_toInt64, tiA, tlA] at c24
          unfold w_X8_tape_b36
          refine ⟨fun c38 => ?_, fun c38 => ?_⟩
          · try simp only [Int32.lt_iff_toInt_lt, Int32.le_iff_toInt_le, ← Int32.toInt_inj, Int32.toInt_toInt64, tiA, tlA] at c38
            unfold w_X8_tape_b48
            have hi26 : vp_in a1 6 := vp_of (by first | omega | ((try simp only [Int32.lt_iff_toInt_lt, Int32.le_iff_toInt_le, ← Int32.toInt_inj, Int32.toInt_toInt64, tiA, tlA]); omega) | (split <;> omega)) (by first | omega | ((try simp only [Int32.lt_iff_toInt_lt, Int32.le_iff_toInt_le, ← Int32.toInt_inj, Int32.toInt_toInt64, tiA, tlA]); omega) | (split <;> omega))
            refine ⟨hi26, ?_⟩
            have hz27 := vlt hi26
            refine ⟨fun c57 => ?_, fun c57 => ?_⟩
            · try simp only [Int32.lt_iff_toInt_lt, Int32.le_iff_toInt_le, ← Int32.toInt_inj, Int32.toInt_toInt64, tiA, tlA] at c57
              unfold w_X8_tape_b65
              refine ⟨_, p_X6_renewAs ((rtp (vlt (hi26)))) (a2) (a3) hI (by first | omega | (constructor <;> first | omega | ((try simp only [Int32.lt_iff_toInt_lt, Int32.le_iff_toInt_le, ← Int32.toInt_inj, Int32.toInt_toInt64, tiA, tlA]); omega))), ?_⟩
              intro lg28 it29 hq
              obtain ⟨⟨hI30, hK31⟩, ha34⟩ := hq
              have hK32 : Kc (fun j => (473 ≤ j ∧ j < 486)) lg0 it0 lg28 it29 := kc_t hKr hK31 (fun j hj => by first | omega | exact False.elim hj | (dsimp only at hj ⊢; omega))
              have hr1 := ha34.1
              have hr2 := ha34.2
              subst hp
              exact ⟨⟨hI30, hK32⟩, ⟨by first | exact tp_n (by omega) | exact tp_b (by omega) (by omega) | exact tp_s (by omega) (by omega) (by omega) | exact tp_1 (by omega) (by omega) (by omega), by first | exact TS_0 (by decide) | exact TS_8 (by assumption) (by first | exact (if_neg (by omega)).symm | exact (if_pos (by omega)).symm), by first | exact TC_0 (by decide) | exact TC_8 (by assumption)⟩⟩
            · try simp only [Int32.lt_iff_toInt_lt, Int32.le_iff_toInt_le, ← Int32.toInt_inj, Int32.toInt_toInt64, tiA, tlA] at c57
              unfold w_X8_tape_b65
              refine ⟨_, p_X6_renewAs ((rtp (vlt (hi26)))) (a2) ((0 : Int32)) hI (by first | omega | (constructor <;> first | omega | ((try simp only [Int32.lt_iff_toInt_lt, Int32.le_iff_toInt_le, ← Int32.toInt_inj, Int32.toInt_toInt64, tiA, tlA]); omega))), ?_⟩
              intro lg35 it36 hq
              obtain ⟨⟨hI37, hK38⟩, ha41⟩ := hq
              have hK39 : Kc (fun j => (473 ≤ j ∧ j < 486)) lg0 it0 lg35 it36 := kc_t hKr hK38 (fun j hj => by first | omega | exact False.elim hj | (dsimp only at hj ⊢; omega))
              have hr1 := ha41.1
              have hr2 := ha41.2
              subst hp
              exact ⟨⟨hI37, hK39⟩, ⟨by first | exact tp_n (by omega) | exact tp_b (by omega) (by omega) | exact tp_s (by omega) (by omega) (by omega) | exact tp_1 (by omega) (by omega) (by omega), by first | exact TS_0 (by decide) | exact TS_8 (by assumption) (by first | exact (if_neg (by omega)).symm | exact (if_pos (by omega)).symm), by first | exact TC_0 (by decide) | exact TC_8 (by assumption)⟩⟩
          · try simp only [Int32.lt_iff_toInt_lt, Int32.le_iff_toInt_le, ← Int32.toInt_inj, Int32.toInt_toInt64, tiA, tlA] at c38
            refine ⟨fun c42 => ?_, fun c42 => ?_⟩
            · try simp only [Int32.lt_iff_toInt_lt, Int32.le_iff_toInt_le, ← Int32.toInt_inj, Int32.toInt_toInt64, tiA, tlA] at c42
              unfold w_X8_tape_b48
              have hi42 : vp_in a1 6 := vp_of (by first | omega | ((try simp only [Int32.lt_iff_toInt_lt, Int32.le_iff_toInt_le, ← Int32.toInt_inj, Int32.toInt_toInt64, tiA, tlA]); omega) | (split <;> omega)) (by first | omega | ((try simp only [Int32.lt_iff_toInt_lt, Int32.le_iff_toInt_le, ← Int32.toInt_inj, Int32.toInt_toInt64, tiA, tlA]); omega) | (split <;> omega))
              refine ⟨hi42, ?_⟩
              have hz43 := vlt hi42
              refine ⟨fun c57 => ?_, fun c57 => ?_⟩
              · try simp only [Int32.lt_iff_toInt_lt, Int32.le_iff_toInt_le, ← Int32.toInt_inj, Int32.toInt_toInt64, tiA, tlA] at c57
                unfold w_X8_tape_b65
                refine ⟨_, p_X6_renewAs ((rtp (vlt (hi42)))) (a2) (a3) hI (by first | omega | (constructor <;> first | omega | ((try simp only [Int32.lt_iff_toInt_lt, Int32.le_iff_toInt_le, ← Int32.toInt_inj, Int32.toInt_toInt64, tiA, tlA]); omega))), ?_⟩
                intro lg44 it45 hq
                obtain ⟨⟨hI46, hK47⟩, ha50⟩ := hq
                have hK48 : Kc (fun j => (473 ≤ j ∧ j < 486)) lg0 it0 lg44 it45 := kc_t hKr hK47 (fun j hj => by first | omega | exact False.elim hj | (dsimp only at hj ⊢; omega))
                have hr1 := ha50.1
                have hr2 := ha50.2
                subst hp
                exact ⟨⟨hI46, hK48⟩, ⟨by first | exact tp_n (by omega) | exact tp_b (by omega) (by omega) | exact tp_s (by omega) (by omega) (by omega) | exact tp_1 (by omega) (by omega) (by omega), by first | exact TS_0 (by decide) | exact TS_8 (by assumption) (by first | exact (if_neg (by omega)).symm | exact (if_pos (by omega)).symm), by first | exact TC_0 (by decide) | exact TC_8 (by assumption)⟩⟩
              · try simp only [Int32.lt_iff_toInt_lt, Int32.le_iff_toInt_le, ← Int32.toInt_inj, Int32.toInt_toInt64, tiA, tlA] at c57
                unfold w_X8_tape_b65
                refine ⟨_, p_X6_renewAs ((rtp (vlt (hi42)))) (a2) ((0 : Int32)) hI (by first | omega | (constructor <;> first | omega | ((try simp only [Int32.lt_iff_toInt_lt, Int32.le_iff_toInt_le, ← Int32.toInt_inj, Int32.toInt_toInt64, tiA, tlA]); omega))), ?_⟩
                intro lg51 it52 hq
                obtain ⟨⟨hI53, hK54⟩, ha57⟩ := hq
                have hK55 : Kc (fun j => (473 ≤ j ∧ j < 486)) lg0 it0 lg51 it52 := kc_t hKr hK54 (fun j hj => by first | omega | exact False.elim hj | (dsimp only at hj ⊢; omega))
                have hr1 := ha57.1
                have hr2 := ha57.2
                subst hp
                exact ⟨⟨hI53, hK55⟩, ⟨by first | exact tp_n (by omega) | exact tp_b (by omega) (by omega) | exact tp_s (by omega) (by omega) (by omega) | exact tp_1 (by omega) (by omega) (by omega), by first | exact TS_0 (by decide) | exact TS_8 (by assumption) (by first | exact (if_neg (by omega)).symm | exact (if_pos (by omega)).symm), by first | exact TC_0 (by decide) | exact TC_8 (by assumption)⟩⟩
            · try simp only [Int32.lt_iff_toInt_lt, Int32.le_iff_toInt_le, ← Int32.toInt_inj, Int32.toInt_toInt64, tiA, tlA] at c42
              subst hp
              exact ⟨⟨hI, hKr⟩, ⟨by first | exact tp_n (by omega) | exact tp_b (by omega) (by omega) | exact tp_s (by omega) (by omega) (by omega) | exact tp_1 (by omega) (by omega) (by omega), by first | exact TS_0 (by decide) | exact TS_8 (by assumption) (by first | exact (if_neg (by omega)).symm | exact (if_pos (by omega)).symm), by first | exact TC_0 (by decide) | exact TC_8 (by assumption)⟩⟩
        · try simp only [Int32.lt_iff_toInt_lt, Int32.le_iff_toInt_le, ← Int32.toInt_inj, Int32.toInt_toInt64, tiA, tlA] at c24
          refine ⟨fun c30 => ?_, fun c30 => ?_⟩
          · try simp only [Int32.lt_iff_toInt_lt, Int32.le_iff_toInt_le, ← Int32.toInt_inj, Int32.toInt_toInt64, tiA, tlA] at c30
            unfold w_X8_tape_b36
            refine ⟨fun c38 => ?_, fun c38 => ?_⟩
            · try simp only [Int32.lt_iff_toInt_lt, Int32.le_iff_toInt_le, ← Int32.toInt_inj, Int32.toInt_toInt64, tiA, tlA] at c38
              unfold w_X8_tape_b48
              have hi58 : vp_in a1 6 := vp_of (by first | omega | ((try simp only [Int32.lt_iff_toInt_lt, Int32.le_iff_toInt_le, ← Int32.toInt_inj, Int32.toInt_toInt64, tiA, tlA]); omega) | (split <;> omega)) (by first | omega | ((try simp only [Int32.lt_iff_toInt_lt, Int32.le_iff_toInt_le, ← Int32.toInt_inj, Int32.toInt_toInt64, tiA, tlA]); omega) | (split <;> omega))
              refine ⟨hi58, ?_⟩
              have hz59 := vlt hi58
              refine ⟨fun c57 => ?_, fun c57 => ?_⟩
              · try simp only [Int32.lt_iff_toInt_lt, Int32.le_iff_toInt_le, ← Int32.toInt_inj, Int32.toInt_toInt64, tiA, tlA] at c57
                unfold w_X8_tape_b65
                refine ⟨_, p_X6_renewAs ((rtp (vlt (hi58)))) (a2) (a3) hI (by first | omega | (constructor <;> first | omega | ((try simp only [Int32.lt_iff_toInt_lt, Int32.le_iff_toInt_le, ← Int32.toInt_inj, Int32.toInt_toInt64, tiA, tlA]); omega))), ?_⟩
                intro lg60 it61 hq
                obtain ⟨⟨hI62, hK63⟩, ha66⟩ := hq
                have hK64 : Kc (fun j => (473 ≤ j ∧ j < 486)) lg0 it0 lg60 it61 := kc_t hKr hK63 (fun j hj => by first | omega | exact False.elim hj | (dsimp only at hj ⊢; omega))
                have hr1 := ha66.1
                have hr2 := ha66.2
                subst hp
                exact ⟨⟨hI62, hK64⟩, ⟨by first | exact tp_n (by omega) | exact tp_b (by omega) (by omega) | exact tp_s (by omega) (by omega) (by omega) | exact tp_1 (by omega) (by omega) (by omega), by first | exact TS_0 (by decide) | exact TS_8 (by assumption) (by first | exact (if_neg (by omega)).symm | exact (if_pos (by omega)).symm), by first | exact TC_0 (by decide) | exact TC_8 (by assumption)⟩⟩
              · try simp only [Int32.lt_iff_toInt_lt, Int32.le_iff_toInt_le, ← Int32.toInt_inj, Int32.toInt_toInt64, tiA, tlA] at c57
                unfold w_X8_tape_b65
                refine ⟨_, p_X6_renewAs ((rtp (vlt (hi58)))) (a2) ((0 : Int32)) hI (by first | omega | (constructor <;> first | omega | ((try simp only [Int32.lt_iff_toInt_lt, Int32.le_iff_toInt_le, ← Int32.toInt_inj, Int32.toInt_toInt64, tiA, tlA]); omega))), ?_⟩
                intro lg67 it68 hq
                obtain ⟨⟨hI69, hK70⟩, ha73⟩ := hq
                have hK71 : Kc (fun j => (473 ≤ j ∧ j < 486)) lg0 it0 lg67 it68 := kc_t hKr hK70 (fun j hj => by first | omega | exact False.elim hj | (dsimp only at hj ⊢; omega))
                have hr1 := ha73.1
                have hr2 := ha73.2
                subst hp
                exact ⟨⟨hI69, hK71⟩, ⟨by first | exact tp_n (by omega) | exact tp_b (by omega) (by omega) | exact tp_s (by omega) (by omega) (by omega) | exact tp_1 (by omega) (by omega) (by omega), by first | exact TS_0 (by decide) | exact TS_8 (by assumption) (by first | exact (if_neg (by omega)).symm | exact (if_pos (by omega)).symm), by first | exact TC_0 (by decide) | exact TC_8 (by assumption)⟩⟩
            · try simp only [Int32.lt_iff_toInt_lt, Int32.le_iff_toInt_le, ← Int32.toInt_inj, Int32.toInt_toInt64, tiA, tlA] at c38
              refine ⟨fun c42 => ?_, fun c42 => ?_⟩
              · try simp only [Int32.lt_iff_toInt_lt, Int32.le_iff_toInt_le, ← Int32.toInt_inj, Int32.toInt_toInt64, tiA, tlA] at c42
                unfold w_X8_tape_b48
                have hi74 : vp_in a1 6 := vp_of (by first | omega | ((try simp only [Int32.lt_iff_toInt_lt, Int32.le_iff_toInt_le, ← Int32.toInt_inj, Int32.toInt_toInt64, tiA, tlA]); omega) | (split <;> omega)) (by first | omega | ((try simp only [Int32.lt_iff_toInt_lt, Int32.le_iff_toInt_le, ← Int32.toInt_inj, Int32.toInt_toInt64, tiA, tlA]); omega) | (split <;> omega))
                refine ⟨hi74, ?_⟩
                have hz75 := vlt hi74
                refine ⟨fun c57 => ?_, fun c57 => ?_⟩
                · try simp only [Int32.lt_iff_toInt_lt, Int32.le_iff_toInt_le, ← Int32.toInt_inj, Int32.toInt_toInt64, tiA, tlA] at c57
                  unfold w_X8_tape_b65
                  refine ⟨_, p_X6_renewAs ((rtp (vlt (hi74)))) (a2) (a3) hI (by first | omega | (constructor <;> first | omega | ((try simp only [Int32.lt_iff_toInt_lt, Int32.le_iff_toInt_le, ← Int32.toInt_inj, Int32.toInt_toInt64, tiA, tlA]); omega))), ?_⟩
                  intro lg76 it77 hq
                  obtain ⟨⟨hI78, hK79⟩, ha82⟩ := hq
                  have hK80 : Kc (fun j => (473 ≤ j ∧ j < 486)) lg0 it0 lg76 it77 := kc_t hKr hK79 (fun j hj => by first | omega | exact False.elim hj | (dsimp only at hj ⊢; omega))
                  have hr1 := ha82.1
                  have hr2 := ha82.2
                  subst hp
                  exact ⟨⟨hI78, hK80⟩, ⟨by first | exact tp_n (by omega) | exact tp_b (by omega) (by omega) | exact tp_s (by omega) (by omega) (by omega) | exact tp_1 (by omega) (by omega) (by omega), by first | exact TS_0 (by decide) | exact TS_8 (by assumption) (by first | exact (if_neg (by omega)).symm | exact (if_pos (by omega)).symm), by first | exact TC_0 (by decide) | exact TC_8 (by assumption)⟩⟩
                · try simp only [Int32.lt_iff_toInt_lt, Int32.le_iff_toInt_le, ← Int32.toInt_inj, Int32.toInt_toInt64, tiA, tlA] at c57
                  unfold w_X8_tape_b65
                  refine ⟨_, p_X6_renewAs ((rtp (vlt (hi74)))) (a2) ((0 : Int32)) hI (by first | omega | (constructor <;> first | omega | ((try simp only [Int32.lt_iff_toInt_lt, Int32.le_iff_toInt_le, ← Int32.toInt_inj, Int32.toInt_toInt64, tiA, tlA]); omega))), ?_⟩
                  intro lg83 it84 hq
                  obtain ⟨⟨hI85, hK86⟩, ha89⟩ := hq
                  have hK87 : Kc (fun j => (473 ≤ j ∧ j < 486)) lg0 it0 lg83 it84 := kc_t hKr hK86 (fun j hj => by first | omega | exact False.elim hj | (dsimp only at hj ⊢; omega))
                  have hr1 := ha89.1
                  have hr2 := ha89.2
                  subst hp
                  exact ⟨⟨hI85, hK87⟩, ⟨by first | exact tp_n (by omega) | exact tp_b (by omega) (by omega) | exact tp_s (by omega) (by omega) (by omega) | exact tp_1 (by omega) (by omega) (by omega), by first | exact TS_0 (by decide) | exact TS_8 (by assumption) (by first | exact (if_neg (by omega)).symm | exact (if_pos (by omega)).symm), by first | exact TC_0 (by decide) | exact TC_8 (by assumption)⟩⟩
              · try simp only [Int32.lt_iff_toInt_lt, Int32.le_iff_toInt_le, ← Int32.toInt_inj, Int32.toInt_toInt64, tiA, tlA] at c42
                subst hp
                exact ⟨⟨hI, hKr⟩, ⟨by first | exact tp_n (by omega) | exact tp_b (by omega) (by omega) | exact tp_s (by omega) (by omega) (by omega) | exact tp_1 (by omega) (by omega) (by omega), by first | exact TS_0 (by decide) | exact TS_8 (by assumption) (by first | exact (if_neg (by omega)).symm | exact (if_pos (by omega)).symm), by first | exact TC_0 (by decide) | exact TC_8 (by assumption)⟩⟩
          · try simp only [Int32.lt_iff_toInt_lt, Int32.le_iff_toInt_le, ← Int32.toInt_inj, Int32.toInt_toInt64, tiA, tlA] at c30
            subst hp
            exact ⟨⟨hI, hKr⟩, ⟨by first | exact tp_n (by omega) | exact tp_b (by omega) (by omega) | exact tp_s (by omega) (by omega) (by omega) | exact tp_1 (by omega) (by omega) (by omega), by first | exact TS_0 (by decide) | exact TS_8 (by assumption) (by first | exact (if_neg (by omega)).symm | exact (if_pos (by omega)).symm), by first | exact TC_0 (by decide) | exact TC_8 (by assumption)⟩⟩
      · try simp only [Int32.lt_iff_toInt_lt, Int32.le_iff_toInt_le, ← Int32.toInt_inj, Int32.toInt_toInt64, tiA, tlA] at c16
        subst hp
        exact ⟨⟨hI, hKr⟩, ⟨by first | exact tp_n (by omega) | exact tp_b (by omega) (by omega) | exact tp_s (by omega) (by omega) (by omega) | exact tp_1 (by omega) (by omega) (by omega), by first | exact TS_0 (by decide) | exact TS_8 (by assumption) (by first | exact (if_neg (by omega)).symm | exact (if_pos (by omega)).symm), by first | exact TC_0 (by decide) | exact TC_8 (by assumption)⟩⟩
  · try simp only [Int32.lt_iff_toInt_lt, Int32.le_iff_toInt_le, ← Int32.toInt_inj, Int32.toInt_toInt64, tiA, tlA] at c4
    subst hp
    exact ⟨⟨hI, hKr⟩, ⟨by first | exact tp_n (by omega) | exact tp_b (by omega) (by omega) | exact tp_s (by omega) (by omega) (by omega) | exact tp_1 (by omega) (by omega) (by omega), by first | exact TS_0 (by decide) | exact TS_8 (by assumption) (by first | exact (if_neg (by omega)).symm | exact (if_pos (by omega)).symm), by first | exact TC_0 (by decide) | exact TC_8 (by assumption)⟩⟩
set_option maxRecDepth 100000 in
theorem p_X9_tape (a1 : Int32) (a2 : Int32) (a3 : Int32) {lg0 : LGt} {it0 : ITt} (hI : I9 lg0 it0) : w_X9_tape a1 a2 a3 (fun (v : Int32) (lg' : LGt) (it' : ITt) => (I9 lg' it' ∧ Kd (fun j => j = 518 ∨ j = 519 ∨ j = 520) (fun k => False) lg0 it0 lg' it') ∧ (v = tapeA a1 a2 a3 ∧ TS v a1 a2 a3 (it0 518) (it0 519) (it' 518) (it' 519) ∧ TC v a1 (f9 lg0) (f9 lg')))  lg0 it0 := by
  have hb_a1 := And.intro a1.le_toInt a1.toInt_lt
  have hb_a2 := And.intro a2.le_toInt a2.toInt_lt
  have hb_a3 := And.intro a3.le_toInt a3.toInt_lt
  have hKr : Kd (fun j => j = 518 ∨ j = 519 ∨ j = 520) (fun k => False) lg0 it0 lg0 it0 := kd_r
  generalize hp : (fun (v : Int32) (lg' : LGt) (it' : ITt) => (I9 lg' it' ∧ Kd (fun j => j = 518 ∨ j = 519 ∨ j = 520) (fun k => False) lg0 it0 lg' it') ∧ (v = tapeA a1 a2 a3 ∧ TS v a1 a2 a3 (it0 518) (it0 519) (it' 518) (it' 519) ∧ TC v a1 (f9 lg0) (f9 lg'))) = Pz
  unfold w_X9_tape
  have t0 := ti_0
  have t9 := ti_9
  have tm1 := ti_m1
  refine ⟨fun c4 => ?_, fun c4 => ?_⟩
  · try simp only [Int32.lt_iff_toInt_lt, Int32.le_iff_toInt_le, ← Int32.toInt_inj, Int32.toInt_toInt64, tiA, tlA] at c4
    refine ⟨fun c20 => ?_, fun c20 => ?_⟩
    · try simp only [Int32.lt_iff_toInt_lt, Int32.le_iff_toInt_le, ← Int32.toInt_inj, Int32.toInt_toInt64, tiA, tlA] at c20
      subst hp
      exact ⟨⟨hI, hKr⟩, ⟨by first | exact tp_n (by omega) | exact tp_b (by omega) (by omega) | exact tp_s (by omega) (by omega) (by omega) | exact tp_1 (by omega) (by omega) (by omega), by first | exact TS_0 (by decide) | assumption, by first | exact TC_0 (by decide) | exact TC_9 hv72_2 (by omega)⟩⟩
    · try simp only [Int32.lt_iff_toInt_lt, Int32.le_iff_toInt_le, ← Int32.toInt_inj, Int32.toInt_toInt64, tiA, tlA] at c20
      refine ⟨fun c24 => ?_, fun c24 => ?_⟩
      · try simp only [Int32.lt_iff_toInt_lt, Int32.le_iff_toInt_le, ← Int32.toInt_inj, Int32.toInt_toInt64, tiA, tlA] at c24
        unfold w_X9_tape_b36
        refine ⟨fun c37 => ?_, fun c37 => ?_⟩
        · try simp only [Int32.lt_iff_toInt_lt, Int32.le_iff_toInt_le, ← Int32.toInt_inj, Int32.toInt_toInt64, tiA, tlA] at c37
          unfold w_X9_tape_b47
          have hi29 : vp_in a1 6 := vp_of (by first | omega | ((try simp only [Int32.lt_iff_toInt_lt, Int32.le_iff_toInt_le, ← Int32.toInt_inj, Int32.toInt_toInt64, tiA, tlA]); omega) | (split <;> omega)) (by first | omega | ((try simp only [Int32.lt_iff_toInt_lt, Int32.le_iff_toInt_le, ← Int32.toInt_inj, Int32.toInt_toInt64, tiA, tlA]); omega) | (split <;> omega))
          refine ⟨hi29, ?_⟩
          have hz30 := vlt hi29
          intro it31 em32
          have hI33 : I9 lg0 it31 := by rw [em32]; exact i9_u hI (ok9_n rfl) (by decide) (fun q => absurd q (by decide))
          have hK34 : Kd (fun j => j = 518 ∨ j = 519 ∨ j = 520) (fun k => False) lg0 it0 lg0 it31 := by rw [em32]; exact kd_ur (by decide) (by first | decide | (dsimp only; decide) | omega | (dsimp only; omega)) hKr
          refine ⟨fun c60 => ?_, fun c60 => ?_⟩
          · try simp only [Int32.lt_iff_toInt_lt, Int32.le_iff_toInt_le, ← Int32.toInt_inj, Int32.toInt_toInt64, tiA, tlA] at c60
            have hi35 : vp_in a1 6 := vp_of (by first | omega | ((try simp only [Int32.lt_iff_toInt_lt, Int32.le_iff_toInt_le, ← Int32.toInt_inj, Int32.toInt_toInt64, tiA, tlA]); omega) | (split <;> omega)) (by first | omega | ((try simp only [Int32.lt_iff_toInt_lt, Int32.le_iff_toInt_le, ← Int32.toInt_inj, Int32.toInt_toInt64, tiA, tlA]); omega) | (split <;> omega))
            refine ⟨hi35, ?_⟩
            have hz36 := vlt hi35
            intro it37 em38
            have hI39 : I9 lg0 it37 := by rw [em38]; exact i9_u hI33 (ok9_b (a := 0) (b := 60) rfl (by first | decide | ((try simp only [Int32.lt_iff_toInt_lt, Int32.le_iff_toInt_le, ← Int32.toInt_inj, Int32.toInt_toInt64, tiA, tlA]); omega) | (split <;> (try simp only [Int32.lt_iff_toInt_lt, Int32.le_iff_toInt_le, ← Int32.toInt_inj, Int32.toInt_toInt64, tiA, tlA]) <;> omega))) (by decide) (fun q => absurd q (by decide))
            have hK40 : Kd (fun j => j = 518 ∨ j = 519 ∨ j = 520) (fun k => False) lg0 it0 lg0 it37 := by rw [em38]; exact kd_ur (by decide) (by first | decide | (dsimp only; decide) | omega | (dsimp only; omega)) hK34
            have lp72 : ∀ (n : Nat) (x4 : Int32) (lg : LGt) (it : ITt), I9 lg it → Kd (fun j => j = 518 ∨ j = 519 ∨ j = 520) (fun k => False) lg0 it0 lg it → ((0 ≤ (x4).toInt) ∧ (TS 1 a1 a2 a3 (it0 518) (it0 519) (it 518) (it 519)) ∧ (TP (x4).toInt a1 (f9 lg0) (f9 lg))) → (61 - (x4).toInt).toNat < n → w_X9_tape_b72 a1 a2 a3 Pz  n x4 lg it := by
              intro n72
              induction n72 with
              | zero => intro x4 lg it _ _ _ hn; exact absurd hn (Nat.not_lt_zero _)
              | succ n72 ih72 =>
                intro x4 lg43 it44 hI41 hK42 hv hn
                unfold w_X9_tape_b72
                obtain ⟨hv72_0, hv72_1, hv72_2⟩ := hv
                refine ⟨fun c76 => ?_, fun c76 => ?_⟩
                · try simp only [Int32.lt_iff_toInt_lt, Int32.le_iff_toInt_le, ← Int32.toInt_inj, Int32.toInt_toInt64, tiA, tlA] at c76
                  subst hp
                  exact ⟨⟨hI41, hK42⟩, ⟨by first | exact tp_n (by omega) | exact tp_b (by omega) (by omega) | exact tp_s (by omega) (by omega) (by omega) | exact tp_1 (by omega) (by omega) (by omega), by first | exact TS_0 (by decide) | assumption, by first | exact TC_0 (by decide) | exact TC_9 hv72_2 (by omega)⟩⟩
                · try simp only [Int32.lt_iff_toInt_lt, Int32.le_iff_toInt_le, ← Int32.toInt_inj, Int32.toInt_toInt64, tiA, tlA] at c76
                  try have f45 : ((60 * a1) : Int32).toInt = 60 * (a1).toInt := ml32 (a := 60) (b := (a1).toInt) (ti_60) (rfl) (by omega) (by omega)
                  try have f46 : (((60 * a1) + x4) : Int32).toInt = ((60 * a1)).toInt + (x4).toInt := ad32 (a := ((60 * a1)).toInt) (b := (x4).toInt) (rfl) (rfl) (by omega) (by omega)
                  have hi47 : vp_in ((60 * a1) + x4) 360 := vp_of (by first | omega | ((try simp only [Int32.lt_iff_toInt_lt, Int32.le_iff_toInt_le, ← Int32.toInt_inj, Int32.toInt_toInt64, tiA, tlA]); omega) | (split <;> omega)) (by first | omega | ((try simp only [Int32.lt_iff_toInt_lt, Int32.le_iff_toInt_le, ← Int32.toInt_inj, Int32.toInt_toInt64, tiA, tlA]); omega) | (split <;> omega))
                  refine ⟨hi47, ?_⟩
                  have hz48 := vlt hi47
                  intro lg49 em50
                  have hI51 : I9 lg49 it44 := by rw [em50]; exact i9_l hI41 (by decide) (by decide) (by decide)
                  have hK52 : Kd (fun j => j = 518 ∨ j = 519 ∨ j = 520) (fun k => False) lg0 it0 lg49 it44 := by rw [em50]; exact kd_lr (by decide) (by first | decide | (dsimp only; decide) | omega | (dsimp only; omega)) hK42
                  try have f53 : ((x4 + 1) : Int32).toInt = (x4).toInt + 1 := ad32 (a := (x4).toInt) (b := 1) (rfl) (ti_1) (by omega) (by omega)
                  exact ih72 ((x4 + 1)) _ _ hI51 hK52 ⟨by omega, hv72_1, TP_s (by assumption) hv72_2 (by omega) (by omega) (by omega) (by omega) (by omega)⟩ (by omega)
            have t54 := ti_0
            exact ⟨_, lp72 ((61 - ((0 : Int32)).toInt).toNat + 1) ((0 : Int32)) _ _ hI39 hK40 ⟨by omega, TS_9 (by assumption) (by assumption) (by first | exact (if_neg (by omega)).symm | exact (if_pos (by omega)).symm), TP_0 ti_0⟩ (Nat.lt_succ_self _)⟩
          · try simp only [Int32.lt_iff_toInt_lt, Int32.le_iff_toInt_le, ← Int32.toInt_inj, Int32.toInt_toInt64, tiA, tlA] at c60
            have hi55 : vp_in a1 6 := vp_of (by first | omega | ((try simp only [Int32.lt_iff_toInt_lt, Int32.le_iff_toInt_le, ← Int32.toInt_inj, Int32.toInt_toInt64, tiA, tlA]); omega) | (split <;> omega)) (by first | omega | ((try simp only [Int32.lt_iff_toInt_lt, Int32.le_iff_toInt_le, ← Int32.toInt_inj, Int32.toInt_toInt64, tiA, tlA]); omega) | (split <;> omega))
            refine ⟨hi55, ?_⟩
            have hz56 := vlt hi55
            intro it57 em58
            have hI59 : I9 lg0 it57 := by rw [em58]; exact i9_u hI33 (ok9_b (a := 0) (b := 60) rfl (by first | decide | ((try simp only [Int32.lt_iff_toInt_lt, Int32.le_iff_toInt_le, ← Int32.toInt_inj, Int32.toInt_toInt64, tiA, tlA]); omega) | (split <;> (try simp only [Int32.lt_iff_toInt_lt, Int32.le_iff_toInt_le, ← Int32.toInt_inj, Int32.toInt_toInt64, tiA, tlA]) <;> omega))) (by decide) (fun q => absurd q (by decide))
            have hK60 : Kd (fun j => j = 518 ∨ j = 519 ∨ j = 520) (fun k => False) lg0 it0 lg0 it57 := by rw [em58]; exact kd_ur (by decide) (by first | decide | (dsimp only; decide) | omega | (dsimp only; omega)) hK34
            have lp72 : ∀ (n : Nat) (x4 : Int32) (lg : LGt) (it : ITt), I9 lg it → Kd (fun j => j = 518 ∨ j = 519 ∨ j = 520) (fun k => False) lg0 it0 lg it → ((0 ≤ (x4).toInt) ∧ (TS 1 a1 a2 a3 (it0 518) (it0 519) (it 518) (it 519)) ∧ (TP (x4).toInt a1 (f9 lg0) (f9 lg))) → (61 - (x4).toInt).toNat < n → w_X9_tape_b72 a1 a2 a3 Pz  n x4 lg it := by
              intro n72
              induction n72 with
              | zero => intro x4 lg it _ _ _ hn; exact absurd hn (Nat.not_lt_zero _)
              | succ n72 ih72 =>
                intro x4 lg63 it64 hI61 hK62 hv hn
                unfold w_X9_tape_b72
                obtain ⟨hv72_0, hv72_1, hv72_2⟩ := hv
                refine ⟨fun c76 => ?_, fun c76 => ?_⟩
                · try simp only [Int32.lt_iff_toInt_lt, Int32.le_iff_toInt_le, ← Int32.toInt_inj, Int32.toInt_toInt64, tiA, tlA] at c76
                  subst hp
                  exact ⟨⟨hI61, hK62⟩, ⟨by first | exact tp_n (by omega) | exact tp_b (by omega) (by omega) | exact tp_s (by omega) (by omega) (by omega) | exact tp_1 (by omega) (by omega) (by omega), by first | exact TS_0 (by decide) | assumption, by first | exact TC_0 (by decide) | exact TC_9 hv72_2 (by omega)⟩⟩
                · try simp only [Int32.lt_iff_toInt_lt, Int32.le_iff_toInt_le, ← Int32.toInt_inj, Int32.toInt_toInt64, tiA, tlA] at c76
                  try have f65 : ((60 * a1) : Int32).toInt = 60 * (a1).toInt := ml32 (a := 60) (b := (a1).toInt) (ti_60) (rfl) (by omega) (by omega)
                  try have f66 : (((60 * a1) + x4) : Int32).toInt = ((60 * a1)).toInt + (x4).toInt := ad32 (a := ((60 * a1)).toInt) (b := (x4).toInt) (rfl) (rfl) (by omega) (by omega)
                  have hi67 : vp_in ((60 * a1) + x4) 360 := vp_of (by first | omega | ((try simp only [Int32.lt_iff_toInt_lt, Int32.le_iff_toInt_le, ← Int32.toInt_inj, Int32.toInt_toInt64, tiA, tlA]); omega) | (split <;> omega)) (by first | omega | ((try simp only [Int32.lt_iff_toInt_lt, Int32.le_iff_toInt_le, ← Int32.toInt_inj, Int32.toInt_toInt64, tiA, tlA]); omega) | (split <;> omega))
                  refine ⟨hi67, ?_⟩
                  have hz68 := vlt hi67
                  intro lg69 em70
                  have hI71 : I9 lg69 it64 := by rw [em70]; exact i9_l hI61 (by decide) (by decide) (by decide)
                  have hK72 : Kd (fun j => j = 518 ∨ j = 519 ∨ j = 520) (fun k => False) lg0 it0 lg69 it64 := by rw [em70]; exact kd_lr (by decide) (by first | decide | (dsimp only; decide) | omega | (dsimp only; omega)) hK62
                  try have f73 : ((x4 + 1) : Int32).toInt = (x4).toInt + 1 := ad32 (a := (x4).toInt) (b := 1) (rfl) (ti_1) (by omega) (by omega)
                  exact ih72 ((x4 + 1)) _ _ hI71 hK72 ⟨by omega, hv72_1, TP_s (by assumption) hv72_2 (by omega) (by omega) (by omega) (by omega) (by omega)⟩ (by omega)
            have t74 := ti_0
            exact ⟨_, lp72 ((61 - ((0 : Int32)).toInt).toNat + 1) ((0 : Int32)) _ _ hI59 hK60 ⟨by omega, TS_9 (by assumption) (by assumption) (by first | exact (if_neg (by omega)).symm | exact (if_pos (by omega)).symm), TP_0 ti_0⟩ (Nat.lt_succ_self _)⟩
        · try simp only [Int32.lt_iff_toInt_lt, Int32.le_iff_toInt_le, ← Int32.toInt_inj, Int32.toInt_toInt64, tiA, tlA] at c37
          refine ⟨fun c41 => ?_, fun c41 => ?_⟩
          · try simp only [Int32.lt_iff_toInt_lt, Int32.le_iff_toInt_le, ← Int32.toInt_inj, Int32.toInt_toInt64, tiA, tlA] at c41
            unfold w_X9_tape_b47
            have hi75 : vp_in a1 6 := vp_of (by first | omega | ((try simp only [Int32.lt_iff_toInt_lt, Int32.le_iff_toInt_le, ← Int32.toInt_inj, Int32.toInt_toInt64, tiA, tlA]); omega) | (split <;> omega)) (by first | omega | ((try simp only [Int32.lt_iff_toInt_lt, Int32.le_iff_toInt_le, ← Int32.toInt_inj, Int32.toInt_toInt64, tiA, tlA]); omega) | (split <;> omega))
            refine ⟨hi75, ?_⟩
            have hz76 := vlt hi75
            intro it77 em78
            have hI79 : I9 lg0 it77 := by rw [em78]; exact i9_u hI (ok9_n rfl) (by decide) (fun q => absurd q (by decide))
            have hK80 : Kd (fun j => j = 518 ∨ j = 519 ∨ j = 520) (fun k => False) lg0 it0 lg0 it77 := by rw [em78]; exact kd_ur (by decide) (by first | decide | (dsimp only; decide) | omega | (dsimp only; omega)) hKr
            refine ⟨fun c60 => ?_, fun c60 => ?_⟩
            · try simp only [Int32.lt_iff_toInt_lt, Int32.le_iff_toInt_le, ← Int32.toInt_inj, Int32.toInt_toInt64, tiA, tlA] at c60
              have hi81 : vp_in a1 6 := vp_of (by first | omega | ((try simp only [Int32.lt_iff_toInt_lt, Int32.le_iff_toInt_le, ← Int32.toInt_inj, Int32.toInt_toInt64, tiA, tlA]); omega) | (split <;> omega)) (by first | omega | ((try simp only [Int32.lt_iff_toInt_lt, Int32.le_iff_toInt_le, ← Int32.toInt_inj, Int32.toInt_toInt64, tiA, tlA]); omega) | (split <;> omega))
              refine ⟨hi81, ?_⟩
              have hz82 := vlt hi81
              intro it83 em84
              have hI85 : I9 lg0 it83 := by rw [em84]; exact i9_u hI79 (ok9_b (a := 0) (b := 60) rfl (by first | decide | ((try simp only [Int32.lt_iff_toInt_lt, Int32.le_iff_toInt_le, ← Int32.toInt_inj, Int32.toInt_toInt64, tiA, tlA]); omega) | (split <;> (try simp only [Int32.lt_iff_toInt_lt, Int32.le_iff_toInt_le, ← Int32.toInt_inj, Int32.toInt_toInt64, tiA, tlA]) <;> omega))) (by decide) (fun q => absurd q (by decide))
              have hK86 : Kd (fun j => j = 518 ∨ j = 519 ∨ j = 520) (fun k => False) lg0 it0 lg0 it83 := by rw [em84]; exact kd_ur (by decide) (by first | decide | (dsimp only; decide) | omega | (dsimp only; omega)) hK80
              have lp72 : ∀ (n : Nat) (x4 : Int32) (lg : LGt) (it : ITt), I9 lg it → Kd (fun j => j = 518 ∨ j = 519 ∨ j = 520) (fun k => False) lg0 it0 lg it → ((0 ≤ (x4).toInt) ∧ (TS 1 a1 a2 a3 (it0 518) (it0 519) (it 518) (it 519)) ∧ (TP (x4).toInt a1 (f9 lg0) (f9 lg))) → (61 - (x4).toInt).toNat < n → w_X9_tape_b72 a1 a2 a3 Pz  n x4 lg it := by
                intro n72
                induction n72 with
                | zero => intro x4 lg it _ _ _ hn; exact absurd hn (Nat.not_lt_zero _)
                | succ n72 ih72 =>
                  intro x4 lg89 it90 hI87 hK88 hv hn
                  unfold w_X9_tape_b72
                  obtain ⟨hv72_0, hv72_1, hv72_2⟩ := hv
                  refine ⟨fun c76 => ?_, fun c76 => ?_⟩
                  · try simp only [Int32.lt_iff_toInt_lt, Int32.le_iff_toInt_le, ← Int32.toInt_inj, Int32.toInt_toInt64, tiA, tlA] at c76
                    subst hp
                    exact ⟨⟨hI87, hK88⟩, ⟨by first | exact tp_n (by omega) | exact tp_b (by omega) (by omega) | exact tp_s (by omega) (by omega) (by omega) | exact tp_1 (by omega) (by omega) (by omega), by first | exact TS_0 (by decide) | assumption, by first | exact TC_0 (by decide) | exact TC_9 hv72_2 (by omega)⟩⟩
                  · try simp only [Int32.lt_iff_toInt_lt, Int32.le_iff_toInt_le, ← Int32.toInt_inj, Int32.toInt_toInt64, tiA, tlA] at c76
                    try have f91 : ((60 * a1) : Int32).toInt = 60 * (a1).toInt := ml32 (a := 60) (b := (a1).toInt) (ti_60) (rfl) (by omega) (by omega)
                    try have f92 : (((60 * a1) + x4) : Int32).toInt = ((60 * a1)).toInt + (x4).toInt := ad32 (a := ((60 * a1)).toInt) (b := (x4).toInt) (rfl) (rfl) (by omega) (by omega)
                    have hi93 : vp_in ((60 * a1) + x4) 360 := vp_of (by first | omega | ((try simp only [Int32.lt_iff_toInt_lt, Int32.le_iff_toInt_le, ← Int32.toInt_inj, Int32.toInt_toInt64, tiA, tlA]); omega) | (split <;> omega)) (by first | omega | ((try simp only [Int32.lt_iff_toInt_lt, Int32.le_iff_toInt_le, ← Int32.toInt_inj, Int32.toInt_toInt64, tiA, tlA]); omega) | (split <;> omega))
                    refine ⟨hi93, ?_⟩
                    have hz94 := vlt hi93
                    intro lg95 em96
                    have hI97 : I9 lg95 it90 := by rw [em96]; exact i9_l hI87 (by decide) (by decide) (by decide)
                    have hK98 : Kd (fun j => j = 518 ∨ j = 519 ∨ j = 520) (fun k => False) lg0 it0 lg95 it90 := by rw [em96]; exact kd_lr (by decide) (by first | decide | (dsimp only; decide) | omega | (dsimp only; omega)) hK88
                    try have f99 : ((x4 + 1) : Int32).toInt = (x4).toInt + 1 := ad32 (a := (x4).toInt) (b := 1) (rfl) (ti_1) (by omega) (by omega)
                    exact ih72 ((x4 + 1)) _ _ hI97 hK98 ⟨by omega, hv72_1, TP_s (by assumption) hv72_2 (by omega) (by omega) (by omega) (by omega) (by omega)⟩ (by omega)
              have t100 := ti_0
              exact ⟨_, lp72 ((61 - ((0 : Int32)).toInt).toNat + 1) ((0 : Int32)) _ _ hI85 hK86 ⟨by omega, TS_9 (by assumption) (by assumption) (by first | exact (if_neg (by omega)).symm | exact (if_pos (by omega)).symm), TP_0 ti_0⟩ (Nat.lt_succ_self _)⟩
            · try simp only [Int32.lt_iff_toInt_lt, Int32.le_iff_toInt_le, ← Int32.toInt_inj, Int32.toInt_toInt64, tiA, tlA] at c60
              have hi101 : vp_in a1 6 := vp_of (by first | omega | ((try simp only [Int32.lt_iff_toInt_lt, Int32.le_iff_toInt_le, ← Int32.toInt_inj, Int32.toInt_toInt64, tiA, tlA]); omega) | (split <;> omega)) (by first | omega | ((try simp only [Int32.lt_iff_toInt_lt, Int32.le_iff_toInt_le, ← Int32.toInt_inj, Int32.toInt_toInt64, tiA, tlA]); omega) | (split <;> omega))
              refine ⟨hi101, ?_⟩
              have hz102 := vlt hi101
              intro it103 em104
              have hI105 : I9 lg0 it103 := by rw [em104]; exact i9_u hI79 (ok9_b (a := 0) (b := 60) rfl (by first | decide | ((try simp only [Int32.lt_iff_toInt_lt, Int32.le_iff_toInt_le, ← Int32.toInt_inj, Int32.toInt_toInt64, tiA, tlA]); omega) | (split <;> (try simp only [Int32.lt_iff_toInt_lt, Int32.le_iff_toInt_le, ← Int32.toInt_inj, Int32.toInt_toInt64, tiA, tlA]) <;> omega))) (by decide) (fun q => absurd q (by decide))
              have hK106 : Kd (fun j => j = 518 ∨ j = 519 ∨ j = 520) (fun k => False) lg0 it0 lg0 it103 := by rw [em104]; exact kd_ur (by decide) (by first | decide | (dsimp only; decide) | omega | (dsimp only; omega)) hK80
              have lp72 : ∀ (n : Nat) (x4 : Int32) (lg : LGt) (it : ITt), I9 lg it → Kd (fun j => j = 518 ∨ j = 519 ∨ j = 520) (fun k => False) lg0 it0 lg it → ((0 ≤ (x4).toInt) ∧ (TS 1 a1 a2 a3 (it0 518) (it0 519) (it 518) (it 519)) ∧ (TP (x4).toInt a1 (f9 lg0) (f9 lg))) → (61 - (x4).toInt).toNat < n → w_X9_tape_b72 a1 a2 a3 Pz  n x4 lg it := by
                intro n72
                induction n72 with
                | zero => intro x4 lg it _ _ _ hn; exact absurd hn (Nat.not_lt_zero _)
                | succ n72 ih72 =>
                  intro x4 lg109 it110 hI107 hK108 hv hn
                  unfold w_X9_tape_b72
                  obtain ⟨hv72_0, hv72_1, hv72_2⟩ := hv
                  refine ⟨fun c76 => ?_, fun c76 => ?_⟩
                  · try simp only [Int32.lt_iff_toInt_lt, Int32.le_iff_toInt_le, ← Int32.toInt_inj, Int32.toInt_toInt64, tiA, tlA] at c76
                    subst hp
                    exact ⟨⟨hI107, hK108⟩, ⟨by first | exact tp_n (by omega) | exact tp_b (by omega) (by omega) | exact tp_s (by omega) (by omega) (by omega) | exact tp_1 (by omega) (by omega) (by omega), by first | exact TS_0 (by decide) | assumption, by first | exact TC_0 (by decide) | exact TC_9 hv72_2 (by omega)⟩⟩
                  · try simp only [Int32.lt_iff_toInt_lt, Int32.le_iff_toInt_le, ← Int32.toInt_inj, Int32.toInt_toInt64, tiA, tlA] at c76
                    try have f111 : ((60 * a1) : Int32).toInt = 60 * (a1).toInt := ml32 (a := 60) (b := (a1).toInt) (ti_60) (rfl) (by omega) (by omega)
                    try have f112 : (((60 * a1) + x4) : Int32).toInt = ((60 * a1)).toInt + (x4).toInt := ad32 (a := ((60 * a1)).toInt) (b := (x4).toInt) (rfl) (rfl) (by omega) (by omega)
                    have hi113 : vp_in ((60 * a1) + x4) 360 := vp_of (by first | omega | ((try simp only [Int32.lt_iff_toInt_lt, Int32.le_iff_toInt_le, ← Int32.toInt_inj, Int32.toInt_toInt64, tiA, tlA]); omega) | (split <;> omega)) (by first | omega | ((try simp only [Int32.lt_iff_toInt_lt, Int32.le_iff_toInt_le, ← Int32.toInt_inj, Int32.toInt_toInt64, tiA, tlA]); omega) | (split <;> omega))
                    refine ⟨hi113, ?_⟩
                    have hz114 := vlt hi113
                    intro lg115 em116
                    have hI117 : I9 lg115 it110 := by rw [em116]; exact i9_l hI107 (by decide) (by decide) (by decide)
                    have hK118 : Kd (fun j => j = 518 ∨ j = 519 ∨ j = 520) (fun k => False) lg0 it0 lg115 it110 := by rw [em116]; exact kd_lr (by decide) (by first | decide | (dsimp only; decide) | omega | (dsimp only; omega)) hK108
                    try have f119 : ((x4 + 1) : Int32).toInt = (x4).toInt + 1 := ad32 (a := (x4).toInt) (b := 1) (rfl) (ti_1) (by omega) (by omega)
                    exact ih72 ((x4 + 1)) _ _ hI117 hK118 ⟨by omega, hv72_1, TP_s (by assumption) hv72_2 (by omega) (by omega) (by omega) (by omega) (by omega)⟩ (by omega)
              have t120 := ti_0
              exact ⟨_, lp72 ((61 - ((0 : Int32)).toInt).toNat + 1) ((0 : Int32)) _ _ hI105 hK106 ⟨by omega, TS_9 (by assumption) (by assumption) (by first | exact (if_neg (by omega)).symm | exact (if_pos (by omega)).symm), TP_0 ti_0⟩ (Nat.lt_succ_self _)⟩
          · try simp only [Int32.lt_iff_toInt_lt, Int32.le_iff_toInt_le, ← Int32.toInt_inj, Int32.toInt_toInt64, tiA, tlA] at c41
            subst hp
            exact ⟨⟨hI, hKr⟩, ⟨by first | exact tp_n (by omega) | exact tp_b (by omega) (by omega) | exact tp_s (by omega) (by omega) (by omega) | exact tp_1 (by omega) (by omega) (by omega), by first | exact TS_0 (by decide) | assumption, by first | exact TC_0 (by decide) | exact TC_9 hv72_2 (by omega)⟩⟩
      · try simp only [Int32.lt_iff_toInt_lt, Int32.le_iff_toInt_le, ← Int32.toInt_inj, Int32.toInt_toInt64, tiA, tlA] at c24
        refine ⟨fun c30 => ?_, fun c30 => ?_⟩
        · try simp only [Int32.lt_iff_toInt_lt, Int32.le_iff_toInt_le, ← Int32.toInt_inj, Int32.toInt_toInt64, tiA, tlA] at c30
          unfold w_X9_tape_b36
          refine ⟨fun c37 => ?_, fun c37 => ?_⟩
          · try simp only [Int32.lt_iff_toInt_lt, Int32.le_iff_toInt_le, ← Int32.toInt_inj, Int32.toInt_toInt64, tiA, tlA] at c37
            unfold w_X9_tape_b47
            have hi121 : vp_in a1 6 := vp_of (by first | omega | ((try simp only [Int32.lt_iff_toInt_lt, Int32.le_iff_toInt_le, ← Int32.toInt_inj, Int32.toInt_toInt64, tiA, tlA]); omega) | (split <;> omega)) (by first | omega | ((try simp only [Int32.lt_iff_toInt_lt, Int32.le_iff_toInt_le, ← Int32.toInt_inj, Int32.toInt_toInt64, tiA, tlA]); omega) | (split <;> omega))
            refine ⟨hi121, ?_⟩
            have hz122 := vlt hi121
            intro it123 em124
            have hI125 : I9 lg0 it123 := by rw [em124]; exact i9_u hI (ok9_n rfl) (by decide) (fun q => absurd q (by decide))
            have hK126 : Kd (fun j => j = 518 ∨ j = 519 ∨ j = 520) (fun k => False) lg0 it0 lg0 it123 := by rw [em124]; exact kd_ur (by decide) (by first | decide | (dsimp only; decide) | omega | (dsimp only; omega)) hKr
            refine ⟨fun c60 => ?_, fun c60 => ?_⟩
            · try simp only [Int32.lt_iff_toInt_lt, Int32.le_iff_toInt_le, ← Int32.toInt_inj, Int32.toInt_toInt64, tiA, tlA] at c60
              have hi127 : vp_in a1 6 := vp_of (by first | omega | ((try simp only [Int32.lt_iff_toInt_lt, Int32.le_iff_toInt_le, ← Int32.toInt_inj, Int32.toInt_toInt64, tiA, tlA]); omega) | (split <;> omega)) (by first | omega | ((try simp only [Int32.lt_iff_toInt_lt, Int32.le_iff_toInt_le, ← Int32.toInt_inj, Int32.toInt_toInt64, tiA, tlA]); omega) | (split <;> omega))
              refine ⟨hi127, ?_⟩
              have hz128 := vlt hi127
              intro it129 em130
              have hI131 : I9 lg0 it129 := by rw [em130]; exact i9_u hI125 (ok9_b (a := 0) (b := 60) rfl (by first | decide | ((try simp only [Int32.lt_iff_toInt_lt, Int32.le_iff_toInt_le, ← Int32.toInt_inj, Int32.toInt_toInt64, tiA, tlA]); omega) | (split <;> (try simp only [Int32.lt_iff_toInt_lt, Int32.le_iff_toInt_le, ← Int32.toInt_inj, Int32.toInt_toInt64, tiA, tlA]) <;> omega))) (by decide) (fun q => absurd q (by decide))
              have hK132 : Kd (fun j => j = 518 ∨ j = 519 ∨ j = 520) (fun k => False) lg0 it0 lg0 it129 := by rw [em130]; exact kd_ur (by decide) (by first | decide | (dsimp only; decide) | omega | (dsimp only; omega)) hK126
              have lp72 : ∀ (n : Nat) (x4 : Int32) (lg : LGt) (it : ITt), I9 lg it → Kd (fun j => j = 518 ∨ j = 519 ∨ j = 520) (fun k => False) lg0 it0 lg it → ((0 ≤ (x4).toInt) ∧ (TS 1 a1 a2 a3 (it0 518) (it0 519) (it 518) (it 519)) ∧ (TP (x4).toInt a1 (f9 lg0) (f9 lg))) → (61 - (x4).toInt).toNat < n → w_X9_tape_b72 a1 a2 a3 Pz  n x4 lg it := by
                intro n72
                induction n72 with
                | zero => intro x4 lg it _ _ _ hn; exact absurd hn (Nat.not_lt_zero _)
                | succ n72 ih72 =>
                  intro x4 lg135 it136 hI133 hK134 hv hn
                  unfold w_X9_tape_b72
                  obtain ⟨hv72_0, hv72_1, hv72_2⟩ := hv
                  refine ⟨fun c76 => ?_, fun c76 => ?_⟩
                  · try simp only [Int32.lt_iff_toInt_lt, Int32.le_iff_toInt_le, ← Int32.toInt_inj, Int32.toInt_toInt64, tiA, tlA] at c76
                    subst hp
                    exact ⟨⟨hI133, hK134⟩, ⟨by first | exact tp_n (by omega) | exact tp_b (by omega) (by omega) | exact tp_s (by omega) (by omega) (by omega) | exact tp_1 (by omega) (by omega) (by omega), by first | exact TS_0 (by decide) | assumption, by first | exact TC_0 (by decide) | exact TC_9 hv72_2 (by omega)⟩⟩
                  · try simp only [Int32.lt_iff_toInt_lt, Int32.le_iff_toInt_le, ← Int32.toInt_inj, Int32.toInt_toInt64, tiA, tlA] at c76
                    try have f137 : ((60 * a1) : Int32).toInt = 60 * (a1).toInt := ml32 (a := 60) (b := (a1).toInt) (ti_60) (rfl) (by omega) (by omega)
                    try have f138 : (((60 * a1) + x4) : Int32).toInt = ((60 * a1)).toInt + (x4).toInt := ad32 (a := ((60 * a1)).toInt) (b := (x4).toInt) (rfl) (rfl) (by omega) (by omega)
                    have hi139 : vp_in ((60 * a1) + x4) 360 := vp_of (by first | omega | ((try simp only [Int32.lt_iff_toInt_lt, Int32.le_iff_toInt_le, ← Int32.toInt_inj, Int32.toInt_toInt64, tiA, tlA]); omega) | (split <;> omega)) (by first | omega | ((try simp only [Int32.lt_iff_toInt_lt, Int32.le_iff_toInt_le, ← Int32.toInt_inj, Int32.toInt_toInt64, tiA, tlA]); omega) | (split <;> omega))
                    refine ⟨hi139, ?_⟩
                    have hz140 := vlt hi139
                    intro lg141 em142
                    have hI143 : I9 lg141 it136 := by rw [em142]; exact i9_l hI133 (by decide) (by decide) (by decide)
                    have hK144 : Kd (fun j => j = 518 ∨ j = 519 ∨ j = 520) (fun k => False) lg0 it0 lg141 it136 := by rw [em142]; exact kd_lr (by decide) (by first | decide | (dsimp only; decide) | omega | (dsimp only; omega)) hK134
                    try have f145 : ((x4 + 1) : Int32).toInt = (x4).toInt + 1 := ad32 (a := (x4).toInt) (b := 1) (rfl) (ti_1) (by omega) (by omega)
                    exact ih72 ((x4 + 1)) _ _ hI143 hK144 ⟨by omega, hv72_1, TP_s (by assumption) hv72_2 (by omega) (by omega) (by omega) (by omega) (by omega)⟩ (by omega)
              have t146 := ti_0
              exact ⟨_, lp72 ((61 - ((0 : Int32)).toInt).toNat + 1) ((0 : Int32)) _ _ hI131 hK132 ⟨by omega, TS_9 (by assumption) (by assumption) (by first | exact (if_neg (by omega)).symm | exact (if_pos (by omega)).symm), TP_0 ti_0⟩ (Nat.lt_succ_self _)⟩
            · try simp only [Int32.lt_iff_toInt_lt, Int32.le_iff_toInt_le, ← Int32.toInt_inj, Int32.toInt_toInt64, tiA, tlA] at c60
              have hi147 : vp_in a1 6 := vp_of (by first | omega | ((try simp only [Int32.lt_iff_toInt_lt, Int32.le_iff_toInt_le, ← Int32.toInt_inj, Int32.toInt_toInt64, tiA, tlA]); omega) | (split <;> omega)) (by first | omega | ((try simp only [Int32.lt_iff_toInt_lt, Int32.le_iff_toInt_le, ← Int32.toInt_inj, Int32.toInt_toInt64, tiA, tlA]); omega) | (split <;> omega))
              refine ⟨hi147, ?_⟩
              have hz148 := vlt hi147
              intro it149 em150
              have hI151 : I9 lg0 it149 := by rw [em150]; exact i9_u hI125 (ok9_b (a := 0) (b := 60) rfl (by first | decide | ((try simp only [Int32.lt_iff_toInt_lt, Int32.le_iff_toInt_le, ← Int32.toInt_inj, Int32.toInt_toInt64, tiA, tlA]); omega) | (split <;> (try simp only [Int32.lt_iff_toInt_lt, Int32.le_iff_toInt_le, ← Int32.toInt_inj, Int32.toInt_toInt64, tiA, tlA]) <;> omega))) (by decide) (fun q => absurd q (by decide))
              have hK152 : Kd (fun j => j = 518 ∨ j = 519 ∨ j = 520) (fun k => False) lg0 it0 lg0 it149 := by rw [em150]; exact kd_ur (by decide) (by first | decide | (dsimp only; decide) | omega | (dsimp only; omega)) hK126
              have lp72 : ∀ (n : Nat) (x4 : Int32) (lg : LGt) (it : ITt), I9 lg it → Kd (fun j => j = 518 ∨ j = 519 ∨ j = 520) (fun k => False) lg0 it0 lg it → ((0 ≤ (x4).toInt) ∧ (TS 1 a1 a2 a3 (it0 518) (it0 519) (it 518) (it 519)) ∧ (TP (x4).toInt a1 (f9 lg0) (f9 lg))) → (61 - (x4).toInt).toNat < n → w_X9_tape_b72 a1 a2 a3 Pz  n x4 lg it := by
                intro n72
                induction n72 with
                | zero => intro x4 lg it _ _ _ hn; exact absurd hn (Nat.not_lt_zero _)
                | succ n72 ih72 =>
                  intro x4 lg155 it156 hI153 hK154 hv hn
                  unfold w_X9_tape_b72
                  obtain ⟨hv72_0, hv72_1, hv72_2⟩ := hv
                  refine ⟨fun c76 => ?_, fun c76 => ?_⟩
                  · try simp only [Int32.lt_iff_toInt_lt, Int32.le_iff_toInt_le, ← Int32.toInt_inj, Int32.toInt_toInt64, tiA, tlA] at c76
                    subst hp
                    exact ⟨⟨hI153, hK154⟩, ⟨by first | exact tp_n (by omega) | exact tp_b (by omega) (by omega) | exact tp_s (by omega) (by omega) (by omega) | exact tp_1 (by omega) (by omega) (by omega), by first | exact TS_0 (by decide) | assumption, by first | exact TC_0 (by decide) | exact TC_9 hv72_2 (by omega)⟩⟩
                  · try simp only [Int32.lt_iff_toInt_lt, Int32.le_iff_toInt_le, ← Int32.toInt_inj, Int32.toInt_toInt64, tiA, tlA] at c76
                    try have f157 : ((60 * a1) : Int32).toInt = 60 * (a1).toInt := ml32 (a := 60) (b := (a1).toInt) (ti_60) (rfl) (by omega) (by omega)
                    try have f158 : (((60 * a1) + x4) : Int32).toInt = ((60 * a1)).toInt + (x4).toInt := ad32 (a := ((60 * a1)).toInt) (b := (x4).toInt) (rfl) (rfl) (by omega) (by omega)
                    have hi159 : vp_in ((60 * a1) + x4) 360 := vp_of (by first | omega | ((try simp only [Int32.lt_iff_toInt_lt, Int32.le_iff_toInt_le, ← Int32.toInt_inj, Int32.toInt_toInt64, tiA, tlA]); omega) | (split <;> omega)) (by first | omega | ((try simp only [Int32.lt_iff_toInt_lt, Int32.le_iff_toInt_le, ← Int32.toInt_inj, Int32.toInt_toInt64, tiA, tlA]); omega) | (split <;> omega))
                    refine ⟨hi159, ?_⟩
                    have hz160 := vlt hi159
                    intro lg161 em162
                    have hI163 : I9 lg161 it156 := by rw [em162]; exact i9_l hI153 (by decide) (by decide) (by decide)
                    have hK164 : Kd (fun j => j = 518 ∨ j = 519 ∨ j = 520) (fun k => False) lg0 it0 lg161 it156 := by rw [em162]; exact kd_lr (by decide) (by first | decide | (dsimp only; decide) | omega | (dsimp only; omega)) hK154
                    try have f165 : ((x4 + 1) : Int32).toInt = (x4).toInt + 1 := ad32 (a := (x4).toInt) (b := 1) (rfl) (ti_1) (by omega) (by omega)
                    exact ih72 ((x4 + 1)) _ _ hI163 hK164 ⟨by omega, hv72_1, TP_s (by assumption) hv72_2 (by omega) (by omega) (by omega) (by omega) (by omega)⟩ (by omega)
              have t166 := ti_0
              exact ⟨_, lp72 ((61 - ((0 : Int32)).toInt).toNat + 1) ((0 : Int32)) _ _ hI151 hK152 ⟨by omega, TS_9 (by assumption) (by assumption) (by first | exact (if_neg (by omega)).symm | exact (if_pos (by omega)).symm), TP_0 ti_0⟩ (Nat.lt_succ_self _)⟩
          · try simp only [Int32.lt_iff_toInt_lt, Int32.le_iff_toInt_le, ← Int32.toInt_inj, Int32.toInt_toInt64, tiA, tlA] at c37
            refine ⟨fun c41 => ?_, fun c41 => ?_⟩
            · try simp only [Int32.lt_iff_toInt_lt, Int32.le_iff_toInt_le, ← Int32.toInt_inj, Int32.toInt_toInt64, tiA, tlA] at c41
              unfold w_X9_tape_b47
              have hi167 : vp_in a1 6 := vp_of (by first | omega | ((try simp only [Int32.lt_iff_toInt_lt, Int32.le_iff_toInt_le, ← Int32.toInt_inj, Int32.toInt_toInt64, tiA, tlA]); omega) | (split <;> omega)) (by first | omega | ((try simp only [Int32.lt_iff_toInt_lt, Int32.le_iff_toInt_le, ← Int32.toInt_inj, Int32.toInt_toInt64, tiA, tlA]); omega) | (split <;> omega))
              refine ⟨hi167, ?_⟩
              have hz168 := vlt hi167
              intro it169 em170
              have hI171 : I9 lg0 it169 := by rw [em170]; exact i9_u hI (ok9_n rfl) (by decide) (fun q => absurd q (by decide))
              have hK172 : Kd (fun j => j = 518 ∨ j = 519 ∨ j = 520) (fun k => False) lg0 it0 lg0 it169 := by rw [em170]; exact kd_ur (by decide) (by first | decide | (dsimp only; decide) | omega | (dsimp only; omega)) hKr
              refine ⟨fun c60 => ?_, fun c60 => ?_⟩
              · try simp only [Int32.lt_iff_toInt_lt, Int32.le_iff_toInt_le, ← Int32.toInt_inj, Int32.toInt_toInt64, tiA, tlA] at c60
                have hi173 : vp_in a1 6 := vp_of (by first | omega | ((try simp only [Int32.lt_iff_toInt_lt, Int32.le_iff_toInt_le, ← Int32.toInt_inj, Int32.toInt_toInt64, tiA, tlA]); omega) | (split <;> omega)) (by first | omega | ((try simp only [Int32.lt_iff_toInt_lt, Int32.le_iff_toInt_le, ← Int32.toInt_inj, Int32.toInt_toInt64, tiA, tlA]); omega) | (split <;> omega))
                refine ⟨hi173, ?_⟩
                have hz174 := vlt hi173
                intro it175 em176
                have hI177 : I9 lg0 it175 := by rw [em176]; exact i9_u hI171 (ok9_b (a := 0) (b := 60) rfl (by first | decide | ((try simp only [Int32.lt_iff_toInt_lt, Int32.le_iff_toInt_le, ← Int32.toInt_inj, Int32.toInt_toInt64, tiA, tlA]); omega) | (split <;> (try simp only [Int32.lt_iff_toInt_lt, Int32.le_iff_toInt_le, ← Int32.toInt_inj, Int32.toInt_toInt64, tiA, tlA]) <;> omega))) (by decide) (fun q => absurd q (by decide))
                have hK178 : Kd (fun j => j = 518 ∨ j = 519 ∨ j = 520) (fun k => False) lg0 it0 lg0 it175 := by rw [em176]; exact kd_ur (by decide) (by first | decide | (dsimp only; decide) | omega | (dsimp only; omega)) hK172
                have lp72 : ∀ (n : Nat) (x4 : Int32) (lg : LGt) (it : ITt), I9 lg it → Kd (fun j => j = 518 ∨ j = 519 ∨ j = 520) (fun k => False) lg0 it0 lg it → ((0 ≤ (x4).toInt) ∧ (TS 1 a1 a2 a3 (it0 518) (it0 519) (it 518) (it 519)) ∧ (TP (x4).toInt a1 (f9 lg0) (f9 lg))) → (61 - (x4).toInt).toNat < n → w_X9_tape_b72 a1 a2 a3 Pz  n x4 lg it := by
                  intro n72
                  induction n72 with
                  | zero => intro x4 lg it _ _ _ hn; exact absurd hn (Nat.not_lt_zero _)
                  | succ n72 ih72 =>
                    intro x4 lg181 it182 hI179 hK180 hv hn
                    unfold w_X9_tape_b72
                    obtain ⟨hv72_0, hv72_1, hv72_2⟩ := hv
                    refine ⟨fun c76 => ?_, fun c76 => ?_⟩
                    · try simp only [Int32.lt_iff_toInt_lt, Int32.le_iff_toInt_le, ← Int32.toInt_inj, Int32.toInt_toInt64, tiA, tlA] at c76
                      subst hp
                      exact ⟨⟨hI179, hK180⟩, ⟨by first | exact tp_n (by omega) | exact tp_b (by omega) (by omega) | exact tp_s (by omega) (by omega) (by omega) | exact tp_1 (by omega) (by omega) (by omega), by first | exact TS_0 (by decide) | assumption, by first | exact TC_0 (by decide) | exact TC_9 hv72_2 (by omega)⟩⟩
                    · try simp only [Int32.lt_iff_toInt_lt, Int32.le_iff_toInt_le, ← Int32.toInt_inj, Int32.toInt_toInt64, tiA, tlA] at c76
                      try have f183 : ((60 * a1) : Int32).toInt = 60 * (a1).toInt := ml32 (a := 60) (b := (a1).toInt) (ti_60) (rfl) (by omega) (by omega)
                      try have f184 : (((60 * a1) + x4) : Int32).toInt = ((60 * a1)).toInt + (x4).toInt := ad32 (a := ((60 * a1)).toInt) (b := (x4).toInt) (rfl) (rfl) (by omega) (by omega)
                      have hi185 : vp_in ((60 * a1) + x4) 360 := vp_of (by first | omega | ((try simp only [Int32.lt_iff_toInt_lt, Int32.le_iff_toInt_le, ← Int32.toInt_inj, Int32.toInt_toInt64, tiA, tlA]); omega) | (split <;> omega)) (by first | omega | ((try simp only [Int32.lt_iff_toInt_lt, Int32.le_iff_toInt_le, ← Int32.toInt_inj, Int32.toInt_toInt64, tiA, tlA]); omega) | (split <;> omega))
                      refine ⟨hi185, ?_⟩
                      have hz186 := vlt hi185
                      intro lg187 em188
                      have hI189 : I9 lg187 it182 := by rw [em188]; exact i9_l hI179 (by decide) (by decide) (by decide)
                      have hK190 : Kd (fun j => j = 518 ∨ j = 519 ∨ j = 520) (fun k => False) lg0 it0 lg187 it182 := by rw [em188]; exact kd_lr (by decide) (by first | decide | (dsimp only; decide) | omega | (dsimp only; omega)) hK180
                      try have f191 : ((x4 + 1) : Int32).toInt = (x4).toInt + 1 := ad32 (a := (x4).toInt) (b := 1) (rfl) (ti_1) (by omega) (by omega)
                      exact ih72 ((x4 + 1)) _ _ hI189 hK190 ⟨by omega, hv72_1, TP_s (by assumption) hv72_2 (by omega) (by omega) (by omega) (by omega) (by omega)⟩ (by omega)
                have t192 := ti_0
                exact ⟨_, lp72 ((61 - ((0 : Int32)).toInt).toNat + 1) ((0 : Int32)) _ _ hI177 hK178 ⟨by omega, TS_9 (by assumption) (by assumption) (by first | exact (if_neg (by omega)).symm | exact (if_pos (by omega)).symm), TP_0 ti_0⟩ (Nat.lt_succ_self _)⟩
              · try simp only [Int32.lt_iff_toInt_lt, Int32.le_iff_toInt_le, ← Int32.toInt_inj, Int32.toInt_toInt64, tiA, tlA] at c60
                have hi193 : vp_in a1 6 := vp_of (by first | omega | ((try simp only [Int32.lt_iff_toInt_lt, Int32.le_iff_toInt_le, ← Int32.toInt_inj, Int32.toInt_toInt64, tiA, tlA]); omega) | (split <;> omega)) (by first | omega | ((try simp only [Int32.lt_iff_toInt_lt, Int32.le_iff_toInt_le, ← Int32.toInt_inj, Int32.toInt_toInt64, tiA, tlA]); omega) | (split <;> omega))
                refine ⟨hi193, ?_⟩
                have hz194 := vlt hi193
                intro it195 em196
                have hI197 : I9 lg0 it195 := by rw [em196]; exact i9_u hI171 (ok9_b (a := 0) (b := 60) rfl (by first | decide | ((try simp only [Int32.lt_iff_toInt_lt, Int32.le_iff_toInt_le, ← Int32.toInt_inj, Int32.toInt_toInt64, tiA, tlA]); omega) | (split <;> (try simp only [Int32.lt_iff_toInt_lt, Int32.le_iff_toInt_le, ← Int32.toInt_inj, Int32.toInt_toInt64, tiA, tlA]) <;> omega))) (by decide) (fun q => absurd q (by decide))
                have hK198 : Kd (fun j => j = 518 ∨ j = 519 ∨ j = 520) (fun k => False) lg0 it0 lg0 it195 := by rw [em196]; exact kd_ur (by decide) (by first | decide | (dsimp only; decide) | omega | (dsimp only; omega)) hK172
                have lp72 : ∀ (n : Nat) (x4 : Int32) (lg : LGt) (it : ITt), I9 lg it → Kd (fun j => j = 518 ∨ j = 519 ∨ j = 520) (fun k => False) lg0 it0 lg it → ((0 ≤ (x4).toInt) ∧ (TS 1 a1 a2 a3 (it0 518) (it0 519) (it 518) (it 519)) ∧ (TP (x4).toInt a1 (f9 lg0) (f9 lg))) → (61 - (x4).toInt).toNat < n → w_X9_tape_b72 a1 a2 a3 Pz  n x4 lg it := by
                  intro n72
                  induction n72 with
                  | zero => intro x4 lg it _ _ _ hn; exact absurd hn (Nat.not_lt_zero _)
                  | succ n72 ih72 =>
                    intro x4 lg201 it202 hI199 hK200 hv hn
                    unfold w_X9_tape_b72
                    obtain ⟨hv72_0, hv72_1, hv72_2⟩ := hv
                    refine ⟨fun c76 => ?_, fun c76 => ?_⟩
                    · try simp only [Int32.lt_iff_toInt_lt, Int32.le_iff_toInt_le, ← Int32.toInt_inj, Int32.toInt_toInt64, tiA, tlA] at c76
                      subst hp
                      exact ⟨⟨hI199, hK200⟩, ⟨by first | exact tp_n (by omega) | exact tp_b (by omega) (by omega) | exact tp_s (by omega) (by omega) (by omega) | exact tp_1 (by omega) (by omega) (by omega), by first | exact TS_0 (by decide) | assumption, by first | exact TC_0 (by decide) | exact TC_9 hv72_2 (by omega)⟩⟩
                    · try simp only [Int32.lt_iff_toInt_lt, Int32.le_iff_toInt_le, ← Int32.toInt_inj, Int32.toInt_toInt64, tiA, tlA] at c76
                      try have f203 : ((60 * a1) : Int32).toInt = 60 * (a1).toInt := ml32 (a := 60) (b := (a1).toInt) (ti_60) (rfl) (by omega) (by omega)
                      try have f204 : (((60 * a1) + x4) : Int32).toInt = ((60 * a1)).toInt + (x4).toInt := ad32 (a := ((60 * a1)).toInt) (b := (x4).toInt) (rfl) (rfl) (by omega) (by omega)
                      have hi205 : vp_in ((60 * a1) + x4) 360 := vp_of (by first | omega | ((try simp only [Int32.lt_iff_toInt_lt, Int32.le_iff_toInt_le, ← Int32.toInt_inj, Int32.toInt_toInt64, tiA, tlA]); omega) | (split <;> omega)) (by first | omega | ((try simp only [Int32.lt_iff_toInt_lt, Int32.le_iff_toInt_le, ← Int32.toInt_inj, Int32.toInt_toInt64, tiA, tlA]); omega) | (split <;> omega))
                      refine ⟨hi205, ?_⟩
                      have hz206 := vlt hi205
                      intro lg207 em208
                      have hI209 : I9 lg207 it202 := by rw [em208]; exact i9_l hI199 (by decide) (by decide) (by decide)
                      have hK210 : Kd (fun j => j = 518 ∨ j = 519 ∨ j = 520) (fun k => False) lg0 it0 lg207 it202 := by rw [em208]; exact kd_lr (by decide) (by first | decide | (dsimp only; decide) | omega | (dsimp only; omega)) hK200
                      try have f211 : ((x4 + 1) : Int32).toInt = (x4).toInt + 1 := ad32 (a := (x4).toInt) (b := 1) (rfl) (ti_1) (by omega) (by omega)
                      exact ih72 ((x4 + 1)) _ _ hI209 hK210 ⟨by omega, hv72_1, TP_s (by assumption) hv72_2 (by omega) (by omega) (by omega) (by omega) (by omega)⟩ (by omega)
                have t212 := ti_0
                exact ⟨_, lp72 ((61 - ((0 : Int32)).toInt).toNat + 1) ((0 : Int32)) _ _ hI197 hK198 ⟨by omega, TS_9 (by assumption) (by assumption) (by first | exact (if_neg (by omega)).symm | exact (if_pos (by omega)).symm), TP_0 ti_0⟩ (Nat.lt_succ_self _)⟩
            · try simp only [Int32.lt_iff_toInt_lt, Int32.le_iff_toInt_le, ← Int32.toInt_inj, Int32.toInt_toInt64, tiA, tlA] at c41
              subst hp
              exact ⟨⟨hI, hKr⟩, ⟨by first | exact tp_n (by omega) | exact tp_b (by omega) (by omega) | exact tp_s (by omega) (by omega) (by omega) | exact tp_1 (by omega) (by omega) (by omega), by first | exact TS_0 (by decide) | assumption, by first | exact TC_0 (by decide) | exact TC_9 hv72_2 (by omega)⟩⟩
        · try simp only [Int32.lt_iff_toInt_lt, Int32.le_iff_toInt_le, ← Int32.toInt_inj, Int32.toInt_toInt64, tiA, tlA] at c30
          subst hp
          exact ⟨⟨hI, hKr⟩, ⟨by first | exact tp_n (by omega) | exact tp_b (by omega) (by omega) | exact tp_s (by omega) (by omega) (by omega) | exact tp_1 (by omega) (by omega) (by omega), by first | exact TS_0 (by decide) | assumption, by first | exact TC_0 (by decide) | exact TC_9 hv72_2 (by omega)⟩⟩
  · try simp only [Int32.lt_iff_toInt_lt, Int32.le_iff_toInt_le, ← Int32.toInt_inj, Int32.toInt_toInt64, tiA, tlA] at c4
    subst hp
    exact ⟨⟨hI, hKr⟩, ⟨by first | exact tp_n (by omega) | exact tp_b (by omega) (by omega) | exact tp_s (by omega) (by omega) (by omega) | exact tp_1 (by omega) (by omega) (by omega), by first | exact TS_0 (by decide) | assumption, by first | exact TC_0 (by decide) | exact TC_9 hv72_2 (by omega)⟩⟩
set_option maxRecDepth 100000 in
theorem p_X6_cut {a0 : Nat} (ha0 : a0 ∈ tb) (a1 : Int64) {lg0 : LGt} {it0 : ITt} (hI : I8 lg0 it0) (hs : 0 ≤ (it0 a0 0).toInt ∧ (it0 a0 0).toInt ≤ 4) : w_X6_cut a0 a1 (fun (v : Int64) (lg' : LGt) (it' : ITt) => (I8 lg' it' ∧ Kc (fun j => False) lg0 it0 lg' it') ∧ (v = cutA (it0 a0 0) a1))  lg0 it0 := by
  have hKr : Kc (fun j => False) lg0 it0 lg0 it0 := kc_r
  generalize hp : (fun (v : Int64) (lg' : LGt) (it' : ITt) => (I8 lg' it' ∧ Kc (fun j => False) lg0 it0 lg' it') ∧ (v = cutA (it0 a0 0) a1)) = Pz
  unfold w_X6_cut
  refine ⟨fun c4 => ?_, fun c4 => ?_, fun c4 => ?_, fun c4 => ?_, fun c4 => ?_, fun c4 => ?_, trivial⟩
  · skip
    subst hp
    exact ⟨⟨hI, hKr⟩, by first | (exfalso; omega) | (unfold cutA; first | (rw [if_pos (by omega)]) | (rw [if_neg (by omega), if_pos (by omega)]) | (rw [if_neg (by omega), if_neg (by omega), if_pos (by omega)]) | (rw [if_neg (by omega), if_neg (by omega), if_neg (by omega), if_pos (by omega)]) | (rw [if_neg (by omega), if_neg (by omega), if_neg (by omega), if_neg (by omega), if_pos (by assumption)]) | (rw [if_neg (by omega), if_neg (by omega), if_neg (by omega), if_neg (by omega), if_neg (by assumption)]))⟩
  · skip
    subst hp
    exact ⟨⟨hI, hKr⟩, by first | (exfalso; omega) | (unfold cutA; first | (rw [if_pos (by omega)]) | (rw [if_neg (by omega), if_pos (by omega)]) | (rw [if_neg (by omega), if_neg (by omega), if_pos (by omega)]) | (rw [if_neg (by omega), if_neg (by omega), if_neg (by omega), if_pos (by omega)]) | (rw [if_neg (by omega), if_neg (by omega), if_neg (by omega), if_neg (by omega), if_pos (by assumption)]) | (rw [if_neg (by omega), if_neg (by omega), if_neg (by omega), if_neg (by omega), if_neg (by assumption)]))⟩
  · skip
    subst hp
    exact ⟨⟨hI, hKr⟩, by first | (exfalso; omega) | (unfold cutA; first | (rw [if_pos (by omega)]) | (rw [if_neg (by omega), if_pos (by omega)]) | (rw [if_neg (by omega), if_neg (by omega), if_pos (by omega)]) | (rw [if_neg (by omega), if_neg (by omega), if_neg (by omega), if_pos (by omega)]) | (rw [if_neg (by omega), if_neg (by omega), if_neg (by omega), if_neg (by omega), if_pos (by assumption)]) | (rw [if_neg (by omega), if_neg (by omega), if_neg (by omega), if_neg (by omega), if_neg (by assumption)]))⟩
  · skip
    subst hp
    exact ⟨⟨hI, hKr⟩, by first | (exfalso; omega) | (unfold cutA; first | (rw [if_pos (by omega)]) | (rw [if_neg (by omega), if_pos (by omega)]) | (rw [if_neg (by omega), if_neg (by omega), if_pos (by omega)]) | (rw [if_neg (by omega), if_neg (by omega), if_neg (by omega), if_pos (by omega)]) | (rw [if_neg (by omega), if_neg (by omega), if_neg (by omega), if_neg (by omega), if_pos (by assumption)]) | (rw [if_neg (by omega), if_neg (by omega), if_neg (by omega), if_neg (by omega), if_neg (by assumption)]))⟩
  · skip
    subst hp
    exact ⟨⟨hI, hKr⟩, by first | (exfalso; omega) | (unfold cutA; first | (rw [if_pos (by omega)]) | (rw [if_neg (by omega), if_pos (by omega)]) | (rw [if_neg (by omega), if_neg (by omega), if_pos (by omega)]) | (rw [if_neg (by omega), if_neg (by omega), if_neg (by omega), if_pos (by omega)]) | (rw [if_neg (by omega), if_neg (by omega), if_neg (by omega), if_neg (by omega), if_pos (by assumption)]) | (rw [if_neg (by omega), if_neg (by omega), if_neg (by omega), if_neg (by omega), if_neg (by assumption)]))⟩
  · skip
    refine ⟨fun c57 => ?_, fun c57 => ?_⟩
    · try simp only [Int32.lt_iff_toInt_lt, Int32.le_iff_toInt_le, ← Int32.toInt_inj, Int32.toInt_toInt64, tiA, tlA] at c57
      subst hp
      exact ⟨⟨hI, hKr⟩, by first | (exfalso; omega) | (unfold cutA; first | (rw [if_pos (by omega)]) | (rw [if_neg (by omega), if_pos (by omega)]) | (rw [if_neg (by omega), if_neg (by omega), if_pos (by omega)]) | (rw [if_neg (by omega), if_neg (by omega), if_neg (by omega), if_pos (by omega)]) | (rw [if_neg (by omega), if_neg (by omega), if_neg (by omega), if_neg (by omega), if_pos (by assumption)]) | (rw [if_neg (by omega), if_neg (by omega), if_neg (by omega), if_neg (by omega), if_neg (by assumption)]))⟩
    · try simp only [Int32.lt_iff_toInt_lt, Int32.le_iff_toInt_le, ← Int32.toInt_inj, Int32.toInt_toInt64, tiA, tlA] at c57
      subst hp
      exact ⟨⟨hI, hKr⟩, by first | (exfalso; omega) | (unfold cutA; first | (rw [if_pos (by omega)]) | (rw [if_neg (by omega), if_pos (by omega)]) | (rw [if_neg (by omega), if_neg (by omega), if_pos (by omega)]) | (rw [if_neg (by omega), if_neg (by omega), if_neg (by omega), if_pos (by omega)]) | (rw [if_neg (by omega), if_neg (by omega), if_neg (by omega), if_neg (by omega), if_pos (by assumption)]) | (rw [if_neg (by omega), if_neg (by omega), if_neg (by omega), if_neg (by omega), if_neg (by assumption)]))⟩
set_option maxRecDepth 100000 in
theorem p_X8_item (a1 : Int32) (a2 : Int32) (a3 : Int64) {lg0 : LGt} {it0 : ITt} (hI : I8 lg0 it0) (hT : ∀ t : Nat, t < 6 → -1 ≤ (it0 (474 + 2 * t) 0).toInt ∧ (it0 (474 + 2 * t) 0).toInt ≤ 4) : w_X8_item a1 a2 a3 (fun (v : Int32) (lg' : LGt) (it' : ITt) => (I8 lg' it' ∧ Ki (fun j => (473 ≤ j ∧ j < 486)) lg0 it0 lg' it') ∧ (v = itemA a1 a2 (it0 (474 + 2 * a1.toNatClampNeg) 0) (it0 (474 + 2 * a1.toNatClampNeg) 1) ∧ IC v a1 a2 (cutA (it0 (474 + 2 * a1.toNatClampNeg) 0) a3) (f8 lg0) (f8 lg')))  lg0 it0 := by
  have hb_a1 := And.intro a1.le_toInt a1.toInt_lt
  have hb_a2 := And.intro a2.le_toInt a2.toInt_lt
  have hKr : Ki (fun j => (473 ≤ j ∧ j < 486)) lg0 it0 lg0 it0 := ki_r
  generalize hp : (fun (v : Int32) (lg' : LGt) (it' : ITt) => (I8 lg' it' ∧ Ki (fun j => (473 ≤ j ∧ j < 486)) lg0 it0 lg' it') ∧ (v = itemA a1 a2 (it0 (474 + 2 * a1.toNatClampNeg) 0) (it0 (474 + 2 * a1.toNatClampNeg) 1) ∧ IC v a1 a2 (cutA (it0 (474 + 2 * a1.toNatClampNeg) 0) a3) (f8 lg0) (f8 lg'))) = Pz
  unfold w_X8_item
  have hs1 := rt_l4 (a := a1) hT
  refine ⟨fun c4 => ?_, fun c4 => ?_⟩
  · try simp only [Int32.lt_iff_toInt_lt, Int32.le_iff_toInt_le, ← Int32.toInt_inj, Int32.toInt_toInt64, tiA, tlA] at c4
    have hi21 : vp_in a1 6 := vp_of (by first | omega | ((try simp only [Int32.lt_iff_toInt_lt, Int32.le_iff_toInt_le, ← Int32.toInt_inj, Int32.toInt_toInt64, tiA, tlA]); omega) | (split <;> omega)) (by first | omega | ((try simp only [Int32.lt_iff_toInt_lt, Int32.le_iff_toInt_le, ← Int32.toInt_inj, Int32.toInt_toInt64, tiA, tlA]); omega) | (split <;> omega))
    refine ⟨hi21, ?_⟩
    have hz22 := vlt hi21
    refine ⟨fun c23 => ?_, fun c23 => ?_⟩
    · try simp only [Int32.lt_iff_toInt_lt, Int32.le_iff_toInt_le, ← Int32.toInt_inj, Int32.toInt_toInt64, tiA, tlA] at c23
      refine ⟨fun c30 => ?_, fun c30 => ?_⟩
      · try simp only [Int32.lt_iff_toInt_lt, Int32.le_iff_toInt_le, ← Int32.toInt_inj, Int32.toInt_toInt64, tiA, tlA] at c30
        subst hp
        exact ⟨⟨hI, hKr⟩, ⟨by unfold itemA; first | (rw [if_pos (by omega)]) | (rw [if_neg (by omega), if_pos (by omega)]) | (rw [if_neg (by omega), if_neg (by omega), if_pos (by omega)]) | (rw [if_neg (by omega), if_neg (by omega), if_neg (by omega), if_pos (by omega)]) | (rw [if_neg (by omega), if_neg (by omega), if_neg (by omega), if_neg (by omega)]) | (rw [if_neg (by omega), if_neg (by omega), if_neg (by omega)]), by first | exact IC_0 (by decide) | exact IC_8c (by assumption) (by assumption) (by assumption)⟩⟩
      · try simp only [Int32.lt_iff_toInt_lt, Int32.le_iff_toInt_le, ← Int32.toInt_inj, Int32.toInt_toInt64, tiA, tlA] at c30
        have f23 : 0 ≤ (it0 (474 + 2 * a1.toNatClampNeg) 1).toInt ∧ (it0 (474 + 2 * a1.toNatClampNeg) 1).toInt ≤ 60 := i8_6 hI (obt (rtp (vlt (hi21))))
        refine ⟨fun c39 => ?_, fun c39 => ?_⟩
        · try simp only [Int32.lt_iff_toInt_lt, Int32.le_iff_toInt_le, ← Int32.toInt_inj, Int32.toInt_toInt64, tiA, tlA] at c39
          refine ⟨_, p_X6_cut ((rtp (vlt (hi21)))) (a3) hI (by omega), ?_⟩
          intro v29 lg24 it25 hq
          obtain ⟨⟨hI26, hK27⟩, ha30⟩ := hq
          have hK28 : Ki (fun j => (473 ≤ j ∧ j < 486)) lg0 it0 lg24 it25 := ki_t hKr hK27 (fun j hj => hj)
          try have e31 : (it25 (474 + 2 * a1.toNatClampNeg) 0).toInt = (it0 (474 + 2 * a1.toNatClampNeg) 0).toInt := congrArg (fun f => Int32.toInt (f 0)) (hK27 (474 + 2 * a1.toNatClampNeg) (by first | omega | (dsimp only; omega))).2
          try have e32 : (it25 (474 + 2 * a1.toNatClampNeg) 1).toInt = (it0 (474 + 2 * a1.toNatClampNeg) 1).toInt := congrArg (fun f => Int32.toInt (f 1)) (hK27 (474 + 2 * a1.toNatClampNeg) (by first | omega | (dsimp only; omega))).2
          have hi33 : vp_in a2 60 := vp_of (by first | omega | ((try simp only [Int32.lt_iff_toInt_lt, Int32.le_iff_toInt_le, ← Int32.toInt_inj, Int32.toInt_toInt64, tiA, tlA]); omega) | (split <;> omega)) (by first | omega | ((try simp only [Int32.lt_iff_toInt_lt, Int32.le_iff_toInt_le, ← Int32.toInt_inj, Int32.toInt_toInt64, tiA, tlA]); omega) | (split <;> omega))
          refine ⟨hi33, ?_⟩
          have hz34 := vlt hi33
          intro lg35 em36
          have hI37 : I8 lg35 it25 := hI26
          have hK38 : Ki (fun j => (473 ≤ j ∧ j < 486)) lg0 it0 lg35 it25 := by rw [em36]; exact ki_l (by first | omega | (dsimp only; omega)) hK28
          subst hp
          exact ⟨⟨hI37, hK38⟩, ⟨by unfold itemA; first | (rw [if_pos (by omega)]) | (rw [if_neg (by omega), if_pos (by omega)]) | (rw [if_neg (by omega), if_neg (by omega), if_pos (by omega)]) | (rw [if_neg (by omega), if_neg (by omega), if_neg (by omega), if_pos (by omega)]) | (rw [if_neg (by omega), if_neg (by omega), if_neg (by omega), if_neg (by omega)]) | (rw [if_neg (by omega), if_neg (by omega), if_neg (by omega)]), by first | exact IC_0 (by decide) | exact IC_8c (by assumption) (by assumption) (by assumption)⟩⟩
        · try simp only [Int32.lt_iff_toInt_lt, Int32.le_iff_toInt_le, ← Int32.toInt_inj, Int32.toInt_toInt64, tiA, tlA] at c39
          subst hp
          exact ⟨⟨hI, hKr⟩, ⟨by unfold itemA; first | (rw [if_pos (by omega)]) | (rw [if_neg (by omega), if_pos (by omega)]) | (rw [if_neg (by omega), if_neg (by omega), if_pos (by omega)]) | (rw [if_neg (by omega), if_neg (by omega), if_neg (by omega), if_pos (by omega)]) | (rw [if_neg (by omega), if_neg (by omega), if_neg (by omega), if_neg (by omega)]) | (rw [if_neg (by omega), if_neg (by omega), if_neg (by omega)]), by first | exact IC_0 (by decide) | exact IC_8c (by assumption) (by assumption) (by assumption)⟩⟩
    · try simp only [Int32.lt_iff_toInt_lt, Int32.le_iff_toInt_le, ← Int32.toInt_inj, Int32.toInt_toInt64, tiA, tlA] at c23
      subst hp
      exact ⟨⟨hI, hKr⟩, ⟨by unfold itemA; first | (rw [if_pos (by omega)]) | (rw [if_neg (by omega), if_pos (by omega)]) | (rw [if_neg (by omega), if_neg (by omega), if_pos (by omega)]) | (rw [if_neg (by omega), if_neg (by omega), if_neg (by omega), if_pos (by omega)]) | (rw [if_neg (by omega), if_neg (by omega), if_neg (by omega), if_neg (by omega)]) | (rw [if_neg (by omega), if_neg (by omega), if_neg (by omega)]), by first | exact IC_0 (by decide) | exact IC_8c (by assumption) (by assumption) (by assumption)⟩⟩
  · try simp only [Int32.lt_iff_toInt_lt, Int32.le_iff_toInt_le, ← Int32.toInt_inj, Int32.toInt_toInt64, tiA, tlA] at c4
    subst hp
    exact ⟨⟨hI, hKr⟩, ⟨by unfold itemA; first | (rw [if_pos (by omega)]) | (rw [if_neg (by omega), if_pos (by omega)]) | (rw [if_neg (by omega), if_neg (by omega), if_pos (by omega)]) | (rw [if_neg (by omega), if_neg (by omega), if_neg (by omega), if_pos (by omega)]) | (rw [if_neg (by omega), if_neg (by omega), if_neg (by omega), if_neg (by omega)]) | (rw [if_neg (by omega), if_neg (by omega), if_neg (by omega)]), by first | exact IC_0 (by decide) | exact IC_8c (by assumption) (by assumption) (by assumption)⟩⟩
set_option maxRecDepth 100000 in
theorem p_X9_item (a1 : Int32) (a2 : Int32) (a3 : Int64) {lg0 : LGt} {it0 : ITt} (hI : I9 lg0 it0) : w_X9_item a1 a2 a3 (fun (v : Int32) (lg' : LGt) (it' : ITt) => (I9 lg' it' ∧ Kd (fun j => j = 520) (fun k => False) lg0 it0 lg' it') ∧ (v = itemA a1 a2 (it0 518 a1.toNatClampNeg) (it0 519 a1.toNatClampNeg) ∧ IC v a1 a2 (cutA (it0 518 a1.toNatClampNeg) a3) (f9 lg0) (f9 lg')))  lg0 it0 := by
  have hb_a1 := And.intro a1.le_toInt a1.toInt_lt
  have hb_a2 := And.intro a2.le_toInt a2.toInt_lt
  have hKr : Kd (fun j => j = 520) (fun k => False) lg0 it0 lg0 it0 := kd_r
  generalize hp : (fun (v : Int32) (lg' : LGt) (it' : ITt) => (I9 lg' it' ∧ Kd (fun j => j = 520) (fun k => False) lg0 it0 lg' it') ∧ (v = itemA a1 a2 (it0 518 a1.toNatClampNeg) (it0 519 a1.toNatClampNeg) ∧ IC v a1 a2 (cutA (it0 518 a1.toNatClampNeg) a3) (f9 lg0) (f9 lg'))) = Pz
  unfold w_X9_item
  have t0 := ti_0
  have t9 := ti_9
  have tm1 := ti_m1
  refine ⟨fun c4 => ?_, fun c4 => ?_⟩
  · try simp only [Int32.lt_iff_toInt_lt, Int32.le_iff_toInt_le, ← Int32.toInt_inj, Int32.toInt_toInt64, tiA, tlA] at c4
    have hi41 : vp_in a1 6 := vp_of (by first | omega | ((try simp only [Int32.lt_iff_toInt_lt, Int32.le_iff_toInt_le, ← Int32.toInt_inj, Int32.toInt_toInt64, tiA, tlA]); omega) | (split <;> omega)) (by first | omega | ((try simp only [Int32.lt_iff_toInt_lt, Int32.le_iff_toInt_le, ← Int32.toInt_inj, Int32.toInt_toInt64, tiA, tlA]); omega) | (split <;> omega))
    refine ⟨hi41, ?_⟩
    have hz42 := vlt hi41
    refine ⟨fun c15 => ?_, fun c15 => ?_⟩
    · try simp only [Int32.lt_iff_toInt_lt, Int32.le_iff_toInt_le, ← Int32.toInt_inj, Int32.toInt_toInt64, tiA, tlA] at c15
      have hi43 : vp_in a1 6 := vp_of (by first | omega | ((try simp only [Int32.lt_iff_toInt_lt, Int32.le_iff_toInt_le, ← Int32.toInt_inj, Int32.toInt_toInt64, tiA, tlA]); omega) | (split <;> omega)) (by first | omega | ((try simp only [Int32.lt_iff_toInt_lt, Int32.le_iff_toInt_le, ← Int32.toInt_inj, Int32.toInt_toInt64, tiA, tlA]); omega) | (split <;> omega))
      refine ⟨hi43, ?_⟩
      have hz44 := vlt hi43
      have f45 : 0 ≤ (it0 519 a1.toNatClampNeg).toInt ∧ (it0 519 a1.toNatClampNeg).toInt ≤ 60 := i9_f hI (j := 519) (k := a1.toNatClampNeg) rfl
      try have f46 : (((it0 519 a1.toNatClampNeg) - 1) : Int32).toInt = ((it0 519 a1.toNatClampNeg)).toInt - 1 := sb32 (a := ((it0 519 a1.toNatClampNeg)).toInt) (b := 1) (rfl) (ti_1) (by omega) (by omega)
      refine ⟨fun c36 => ?_, fun c36 => ?_⟩
      · try simp only [Int32.lt_iff_toInt_lt, Int32.le_iff_toInt_le, ← Int32.toInt_inj, Int32.toInt_toInt64, tiA, tlA] at c36
        have hi47 : vp_in a1 6 := vp_of (by first | omega | ((try simp only [Int32.lt_iff_toInt_lt, Int32.le_iff_toInt_le, ← Int32.toInt_inj, Int32.toInt_toInt64, tiA, tlA]); omega) | (split <;> omega)) (by first | omega | ((try simp only [Int32.lt_iff_toInt_lt, Int32.le_iff_toInt_le, ← Int32.toInt_inj, Int32.toInt_toInt64, tiA, tlA]); omega) | (split <;> omega))
        refine ⟨hi47, ?_⟩
        have hz48 := vlt hi47
        try have f49 : ((60 * a1) : Int32).toInt = 60 * (a1).toInt := ml32 (a := 60) (b := (a1).toInt) (ti_60) (rfl) (by omega) (by omega)
        try have f50 : (((60 * a1) + a2) : Int32).toInt = ((60 * a1)).toInt + (a2).toInt := ad32 (a := ((60 * a1)).toInt) (b := (a2).toInt) (rfl) (rfl) (by omega) (by omega)
        refine ⟨fun c62 => ?_, fun c62 => ?_⟩
        · try simp only [Int32.lt_iff_toInt_lt, Int32.le_iff_toInt_le, ← Int32.toInt_inj, Int32.toInt_toInt64, tiA, tlA] at c62
          refine ⟨fun c75 => ?_, fun c75 => ?_⟩
          · try simp only [Int32.lt_iff_toInt_lt, Int32.le_iff_toInt_le, ← Int32.toInt_inj, Int32.toInt_toInt64, tiA, tlA] at c75
            refine ⟨fun c88 => ?_, fun c88 => ?_⟩
            · try simp only [Int32.lt_iff_toInt_lt, Int32.le_iff_toInt_le, ← Int32.toInt_inj, Int32.toInt_toInt64, tiA, tlA] at c88
              refine ⟨fun c100 => ?_, fun c100 => ?_⟩
              · try simp only [Int32.lt_iff_toInt_lt, Int32.le_iff_toInt_le, ← Int32.toInt_inj, Int32.toInt_toInt64, tiA, tlA] at c100
                refine ⟨fun c110 => ?_, fun c110 => ?_⟩
                · try simp only [Int32.lt_iff_toInt_lt, Int32.le_iff_toInt_le, ← Int32.toInt_inj, Int32.toInt_toInt64, tiA, tlA] at c110
                  have hi51 : vp_in ((60 * a1) + a2) 360 := vp_of (by first | omega | ((try simp only [Int32.lt_iff_toInt_lt, Int32.le_iff_toInt_le, ← Int32.toInt_inj, Int32.toInt_toInt64, tiA, tlA]); omega) | (split <;> omega)) (by first | omega | ((try simp only [Int32.lt_iff_toInt_lt, Int32.le_iff_toInt_le, ← Int32.toInt_inj, Int32.toInt_toInt64, tiA, tlA]); omega) | (split <;> omega))
                  refine ⟨hi51, ?_⟩
                  have hz52 := vlt hi51
                  intro lg53 em54
                  have hI55 : I9 lg53 it0 := by rw [em54]; exact i9_l hI (by decide) (by decide) (by decide)
                  have hK56 : Kd (fun j => j = 520) (fun k => False) lg0 it0 lg53 it0 := by rw [em54]; exact kd_lr (by decide) (by first | decide | (dsimp only; decide) | omega | (dsimp only; omega)) hKr
                  subst hp
                  exact ⟨⟨hI55, hK56⟩, ⟨by unfold itemA; first | (rw [if_pos (by omega)]) | (rw [if_neg (by omega), if_pos (by omega)]) | (rw [if_neg (by omega), if_neg (by omega), if_pos (by omega)]) | (rw [if_neg (by omega), if_neg (by omega), if_neg (by omega), if_pos (by omega)]) | (rw [if_neg (by omega), if_neg (by omega), if_neg (by omega), if_neg (by omega)]) | (rw [if_neg (by omega), if_neg (by omega), if_neg (by omega)]), by first | exact IC_0 (by decide) | exact IC_9 (by assumption) (by omega) (by omega) (by omega) (by first | (exfalso; omega) | (unfold cutA; first | (rw [if_pos (by omega)]) | (rw [if_neg (by omega), if_pos (by omega)]) | (rw [if_neg (by omega), if_neg (by omega), if_pos (by omega)]) | (rw [if_neg (by omega), if_neg (by omega), if_neg (by omega), if_pos (by omega)]) | (rw [if_neg (by omega), if_neg (by omega), if_neg (by omega), if_neg (by omega), if_pos (by assumption)]) | (rw [if_neg (by omega), if_neg (by omega), if_neg (by omega), if_neg (by omega), if_neg (by assumption)])))⟩⟩
                · try simp only [Int32.lt_iff_toInt_lt, Int32.le_iff_toInt_le, ← Int32.toInt_inj, Int32.toInt_toInt64, tiA, tlA] at c110
                  have hi57 : vp_in ((60 * a1) + a2) 360 := vp_of (by first | omega | ((try simp only [Int32.lt_iff_toInt_lt, Int32.le_iff_toInt_le, ← Int32.toInt_inj, Int32.toInt_toInt64, tiA, tlA]); omega) | (split <;> omega)) (by first | omega | ((try simp only [Int32.lt_iff_toInt_lt, Int32.le_iff_toInt_le, ← Int32.toInt_inj, Int32.toInt_toInt64, tiA, tlA]); omega) | (split <;> omega))
                  refine ⟨hi57, ?_⟩
                  have hz58 := vlt hi57
                  intro lg59 em60
                  have hI61 : I9 lg59 it0 := by rw [em60]; exact i9_l hI (by decide) (by decide) (by decide)
                  have hK62 : Kd (fun j => j = 520) (fun k => False) lg0 it0 lg59 it0 := by rw [em60]; exact kd_lr (by decide) (by first | decide | (dsimp only; decide) | omega | (dsimp only; omega)) hKr
                  subst hp
                  exact ⟨⟨hI61, hK62⟩, ⟨by unfold itemA; first | (rw [if_pos (by omega)]) | (rw [if_neg (by omega), if_pos (by omega)]) | (rw [if_neg (by omega), if_neg (by omega), if_pos (by omega)]) | (rw [if_neg (by omega), if_neg (by omega), if_neg (by omega), if_pos (by omega)]) | (rw [if_neg (by omega), if_neg (by omega), if_neg (by omega), if_neg (by omega)]) | (rw [if_neg (by omega), if_neg (by omega), if_neg (by omega)]), by first | exact IC_0 (by decide) | exact IC_9 (by assumption) (by omega) (by omega) (by omega) (by first | (exfalso; omega) | (unfold cutA; first | (rw [if_pos (by omega)]) | (rw [if_neg (by omega), if_pos (by omega)]) | (rw [if_neg (by omega), if_neg (by omega), if_pos (by omega)]) | (rw [if_neg (by omega), if_neg (by omega), if_neg (by omega), if_pos (by omega)]) | (rw [if_neg (by omega), if_neg (by omega), if_neg (by omega), if_neg (by omega), if_pos (by assumption)]) | (rw [if_neg (by omega), if_neg (by omega), if_neg (by omega), if_neg (by omega), if_neg (by assumption)])))⟩⟩
              · try simp only [Int32.lt_iff_toInt_lt, Int32.le_iff_toInt_le, ← Int32.toInt_inj, Int32.toInt_toInt64, tiA, tlA] at c100
                have hi63 : vp_in ((60 * a1) + a2) 360 := vp_of (by first | omega | ((try simp only [Int32.lt_iff_toInt_lt, Int32.le_iff_toInt_le, ← Int32.toInt_inj, Int32.toInt_toInt64, tiA, tlA]); omega) | (split <;> omega)) (by first | omega | ((try simp only [Int32.lt_iff_toInt_lt, Int32.le_iff_toInt_le, ← Int32.toInt_inj, Int32.toInt_toInt64, tiA, tlA]); omega) | (split <;> omega))
                refine ⟨hi63, ?_⟩
                have hz64 := vlt hi63
                intro lg65 em66
                have hI67 : I9 lg65 it0 := by rw [em66]; exact i9_l hI (by decide) (by decide) (by decide)
                have hK68 : Kd (fun j => j = 520) (fun k => False) lg0 it0 lg65 it0 := by rw [em66]; exact kd_lr (by decide) (by first | decide | (dsimp only; decide) | omega | (dsimp only; omega)) hKr
                subst hp
                exact ⟨⟨hI67, hK68⟩, ⟨by unfold itemA; first | (rw [if_pos (by omega)]) | (rw [if_neg (by omega), if_pos (by omega)]) | (rw [if_neg (by omega), if_neg (by omega), if_pos (by omega)]) | (rw [if_neg (by omega), if_neg (by omega), if_neg (by omega), if_pos (by omega)]) | (rw [if_neg (by omega), if_neg (by omega), if_neg (by omega), if_neg (by omega)]) | (rw [if_neg (by omega), if_neg (by omega), if_neg (by omega)]), by first | exact IC_0 (by decide) | exact IC_9 (by assumption) (by omega) (by omega) (by omega) (by first | (exfalso; omega) | (unfold cutA; first | (rw [if_pos (by omega)]) | (rw [if_neg (by omega), if_pos (by omega)]) | (rw [if_neg (by omega), if_neg (by omega), if_pos (by omega)]) | (rw [if_neg (by omega), if_neg (by omega), if_neg (by omega), if_pos (by omega)]) | (rw [if_neg (by omega), if_neg (by omega), if_neg (by omega), if_neg (by omega), if_pos (by assumption)]) | (rw [if_neg (by omega), if_neg (by omega), if_neg (by omega), if_neg (by omega), if_neg (by assumption)])))⟩⟩
            · try simp only [Int32.lt_iff_toInt_lt, Int32.le_iff_toInt_le, ← Int32.toInt_inj, Int32.toInt_toInt64, tiA, tlA] at c88
              have hi69 : vp_in ((60 * a1) + a2) 360 := vp_of (by first | omega | ((try simp only [Int32.lt_iff_toInt_lt, Int32.le_iff_toInt_le, ← Int32.toInt_inj, Int32.toInt_toInt64, tiA, tlA]); omega) | (split <;> omega)) (by first | omega | ((try simp only [Int32.lt_iff_toInt_lt, Int32.le_iff_toInt_le, ← Int32.toInt_inj, Int32.toInt_toInt64, tiA, tlA]); omega) | (split <;> omega))
              refine ⟨hi69, ?_⟩
              have hz70 := vlt hi69
              intro lg71 em72
              have hI73 : I9 lg71 it0 := by rw [em72]; exact i9_l hI (by decide) (by decide) (by decide)
              have hK74 : Kd (fun j => j = 520) (fun k => False) lg0 it0 lg71 it0 := by rw [em72]; exact kd_lr (by decide) (by first | decide | (dsimp only; decide) | omega | (dsimp only; omega)) hKr
              subst hp
              exact ⟨⟨hI73, hK74⟩, ⟨by unfold itemA; first | (rw [if_pos (by omega)]) | (rw [if_neg (by omega), if_pos (by omega)]) | (rw [if_neg (by omega), if_neg (by omega), if_pos (by omega)]) | (rw [if_neg (by omega), if_neg (by omega), if_neg (by omega), if_pos (by omega)]) | (rw [if_neg (by omega), if_neg (by omega), if_neg (by omega), if_neg (by omega)]) | (rw [if_neg (by omega), if_neg (by omega), if_neg (by omega)]), by first | exact IC_0 (by decide) | exact IC_9 (by assumption) (by omega) (by omega) (by omega) (by first | (exfalso; omega) | (unfold cutA; first | (rw [if_pos (by omega)]) | (rw [if_neg (by omega), if_pos (by omega)]) | (rw [if_neg (by omega), if_neg (by omega), if_pos (by omega)]) | (rw [if_neg (by omega), if_neg (by omega), if_neg (by omega), if_pos (by omega)]) | (rw [if_neg (by omega), if_neg (by omega), if_neg (by omega), if_neg (by omega), if_pos (by assumption)]) | (rw [if_neg (by omega), if_neg (by omega), if_neg (by omega), if_neg (by omega), if_neg (by assumption)])))⟩⟩
          · try simp only [Int32.lt_iff_toInt_lt, Int32.le_iff_toInt_le, ← Int32.toInt_inj, Int32.toInt_toInt64, tiA, tlA] at c75
            have hi75 : vp_in ((60 * a1) + a2) 360 := vp_of (by first | omega | ((try simp only [Int32.lt_iff_toInt_lt, Int32.le_iff_toInt_le, ← Int32.toInt_inj, Int32.toInt_toInt64, tiA, tlA]); omega) | (split <;> omega)) (by first | omega | ((try simp only [Int32.lt_iff_toInt_lt, Int32.le_iff_toInt_le, ← Int32.toInt_inj, Int32.toInt_toInt64, tiA, tlA]); omega) | (split <;> omega))
            refine ⟨hi75, ?_⟩
            have hz76 := vlt hi75
            intro lg77 em78
            have hI79 : I9 lg77 it0 := by rw [em78]; exact i9_l hI (by decide) (by decide) (by decide)
            have hK80 : Kd (fun j => j = 520) (fun k => False) lg0 it0 lg77 it0 := by rw [em78]; exact kd_lr (by decide) (by first | decide | (dsimp only; decide) | omega | (dsimp only; omega)) hKr
            subst hp
            exact ⟨⟨hI79, hK80⟩, ⟨by unfold itemA; first | (rw [if_pos (by omega)]) | (rw [if_neg (by omega), if_pos (by omega)]) | (rw [if_neg (by omega), if_neg (by omega), if_pos (by omega)]) | (rw [if_neg (by omega), if_neg (by omega), if_neg (by omega), if_pos (by omega)]) | (rw [if_neg (by omega), if_neg (by omega), if_neg (by omega), if_neg (by omega)]) | (rw [if_neg (by omega), if_neg (by omega), if_neg (by omega)]), by first | exact IC_0 (by decide) | exact IC_9 (by assumption) (by omega) (by omega) (by omega) (by first | (exfalso; omega) | (unfold cutA; first | (rw [if_pos (by omega)]) | (rw [if_neg (by omega), if_pos (by omega)]) | (rw [if_neg (by omega), if_neg (by omega), if_pos (by omega)]) | (rw [if_neg (by omega), if_neg (by omega), if_neg (by omega), if_pos (by omega)]) | (rw [if_neg (by omega), if_neg (by omega), if_neg (by omega), if_neg (by omega), if_pos (by assumption)]) | (rw [if_neg (by omega), if_neg (by omega), if_neg (by omega), if_neg (by omega), if_neg (by assumption)])))⟩⟩
        · try simp only [Int32.lt_iff_toInt_lt, Int32.le_iff_toInt_le, ← Int32.toInt_inj, Int32.toInt_toInt64, tiA, tlA] at c62
          have hi81 : vp_in ((60 * a1) + a2) 360 := vp_of (by first | omega | ((try simp only [Int32.lt_iff_toInt_lt, Int32.le_iff_toInt_le, ← Int32.toInt_inj, Int32.toInt_toInt64, tiA, tlA]); omega) | (split <;> omega)) (by first | omega | ((try simp only [Int32.lt_iff_toInt_lt, Int32.le_iff_toInt_le, ← Int32.toInt_inj, Int32.toInt_toInt64, tiA, tlA]); omega) | (split <;> omega))
          refine ⟨hi81, ?_⟩
          have hz82 := vlt hi81
          intro lg83 em84
          have hI85 : I9 lg83 it0 := by rw [em84]; exact i9_l hI (by decide) (by decide) (by decide)
          have hK86 : Kd (fun j => j = 520) (fun k => False) lg0 it0 lg83 it0 := by rw [em84]; exact kd_lr (by decide) (by first | decide | (dsimp only; decide) | omega | (dsimp only; omega)) hKr
          subst hp
          exact ⟨⟨hI85, hK86⟩, ⟨by unfold itemA; first | (rw [if_pos (by omega)]) | (rw [if_neg (by omega), if_pos (by omega)]) | (rw [if_neg (by omega), if_neg (by omega), if_pos (by omega)]) | (rw [if_neg (by omega), if_neg (by omega), if_neg (by omega), if_pos (by omega)]) | (rw [if_neg (by omega), if_neg (by omega), if_neg (by omega), if_neg (by omega)]) | (rw [if_neg (by omega), if_neg (by omega), if_neg (by omega)]), by first | exact IC_0 (by decide) | exact IC_9 (by assumption) (by omega) (by omega) (by omega) (by first | (exfalso; omega) | (unfold cutA; first | (rw [if_pos (by omega)]) | (rw [if_neg (by omega), if_pos (by omega)]) | (rw [if_neg (by omega), if_neg (by omega), if_pos (by omega)]) | (rw [if_neg (by omega), if_neg (by omega), if_neg (by omega), if_pos (by omega)]) | (rw [if_neg (by omega), if_neg (by omega), if_neg (by omega), if_neg (by omega), if_pos (by assumption)]) | (rw [if_neg (by omega), if_neg (by omega), if_neg (by omega), if_neg (by omega), if_neg (by assumption)])))⟩⟩
      · try simp only [Int32.lt_iff_toInt_lt, Int32.le_iff_toInt_le, ← Int32.toInt_inj, Int32.toInt_toInt64, tiA, tlA] at c36
        subst hp
        exact ⟨⟨hI, hKr⟩, ⟨by unfold itemA; first | (rw [if_pos (by omega)]) | (rw [if_neg (by omega), if_pos (by omega)]) | (rw [if_neg (by omega), if_neg (by omega), if_pos (by omega)]) | (rw [if_neg (by omega), if_neg (by omega), if_neg (by omega), if_pos (by omega)]) | (rw [if_neg (by omega), if_neg (by omega), if_neg (by omega), if_neg (by omega)]) | (rw [if_neg (by omega), if_neg (by omega), if_neg (by omega)]), by first | exact IC_0 (by decide) | exact IC_9 (by assumption) (by omega) (by omega) (by omega) (by first | (exfalso; omega) | (unfold cutA; first | (rw [if_pos (by omega)]) | (rw [if_neg (by omega), if_pos (by omega)]) | (rw [if_neg (by omega), if_neg (by omega), if_pos (by omega)]) | (rw [if_neg (by omega), if_neg (by omega), if_neg (by omega), if_pos (by omega)]) | (rw [if_neg (by omega), if_neg (by omega), if_neg (by omega), if_neg (by omega), if_pos (by assumption)]) | (rw [if_neg (by omega), if_neg (by omega), if_neg (by omega), if_neg (by omega), if_neg (by assumption)])))⟩⟩
    · try simp only [Int32.lt_iff_toInt_lt, Int32.le_iff_toInt_le, ← Int32.toInt_inj, Int32.toInt_toInt64, tiA, tlA] at c15
      subst hp
      exact ⟨⟨hI, hKr⟩, ⟨by unfold itemA; first | (rw [if_pos (by omega)]) | (rw [if_neg (by omega), if_pos (by omega)]) | (rw [if_neg (by omega), if_neg (by omega), if_pos (by omega)]) | (rw [if_neg (by omega), if_neg (by omega), if_neg (by omega), if_pos (by omega)]) | (rw [if_neg (by omega), if_neg (by omega), if_neg (by omega), if_neg (by omega)]) | (rw [if_neg (by omega), if_neg (by omega), if_neg (by omega)]), by first | exact IC_0 (by decide) | exact IC_9 (by assumption) (by omega) (by omega) (by omega) (by first | (exfalso; omega) | (unfold cutA; first | (rw [if_pos (by omega)]) | (rw [if_neg (by omega), if_pos (by omega)]) | (rw [if_neg (by omega), if_neg (by omega), if_pos (by omega)]) | (rw [if_neg (by omega), if_neg (by omega), if_neg (by omega), if_pos (by omega)]) | (rw [if_neg (by omega), if_neg (by omega), if_neg (by omega), if_neg (by omega), if_pos (by assumption)]) | (rw [if_neg (by omega), if_neg (by omega), if_neg (by omega), if_neg (by omega), if_neg (by assumption)])))⟩⟩
  · try simp only [Int32.lt_iff_toInt_lt, Int32.le_iff_toInt_le, ← Int32.toInt_inj, Int32.toInt_toInt64, tiA, tlA] at c4
    subst hp
    exact ⟨⟨hI, hKr⟩, ⟨by unfold itemA; first | (rw [if_pos (by omega)]) | (rw [if_neg (by omega), if_pos (by omega)]) | (rw [if_neg (by omega), if_neg (by omega), if_pos (by omega)]) | (rw [if_neg (by omega), if_neg (by omega), if_neg (by omega), if_pos (by omega)]) | (rw [if_neg (by omega), if_neg (by omega), if_neg (by omega), if_neg (by omega)]) | (rw [if_neg (by omega), if_neg (by omega), if_neg (by omega)]), by first | exact IC_0 (by decide) | exact IC_9 (by assumption) (by omega) (by omega) (by omega) (by first | (exfalso; omega) | (unfold cutA; first | (rw [if_pos (by omega)]) | (rw [if_neg (by omega), if_pos (by omega)]) | (rw [if_neg (by omega), if_neg (by omega), if_pos (by omega)]) | (rw [if_neg (by omega), if_neg (by omega), if_neg (by omega), if_pos (by omega)]) | (rw [if_neg (by omega), if_neg (by omega), if_neg (by omega), if_neg (by omega), if_pos (by assumption)]) | (rw [if_neg (by omega), if_neg (by omega), if_neg (by omega), if_neg (by omega), if_neg (by assumption)])))⟩⟩
set_option maxRecDepth 100000 in
theorem p_X8_peek (a1 : Int32) (a2 : Int32) {lg0 : LGt} {it0 : ITt} (hI : I8 lg0 it0) : w_X8_peek a1 a2 (fun (v : Int64) (lg' : LGt) (it' : ITt) => (I8 lg' it' ∧ Kc (fun j => False) lg0 it0 lg' it') ∧ (v = peekA a1 a2 (it0 (474 + 2 * a1.toNatClampNeg) 1) (f8 lg0 a1.toNatClampNeg a2.toNatClampNeg)))  lg0 it0 := by
  have hb_a1 := And.intro a1.le_toInt a1.toInt_lt
  have hb_a2 := And.intro a2.le_toInt a2.toInt_lt
  have hKr : Kc (fun j => False) lg0 it0 lg0 it0 := kc_r
  generalize hp : (fun (v : Int64) (lg' : LGt) (it' : ITt) => (I8 lg' it' ∧ Kc (fun j => False) lg0 it0 lg' it') ∧ (v = peekA a1 a2 (it0 (474 + 2 * a1.toNatClampNeg) 1) (f8 lg0 a1.toNatClampNeg a2.toNatClampNeg))) = Pz
  unfold w_X8_peek
  refine ⟨fun c4 => ?_, fun c4 => ?_⟩
  · try simp only [Int32.lt_iff_toInt_lt, Int32.le_iff_toInt_le, ← Int32.toInt_inj, Int32.toInt_toInt64, tiA, tlA] at c4
    subst hp
    exact ⟨⟨hI, hKr⟩, by first | exact pk_n (by omega) | exact pk_8 (by omega) (by omega)⟩
  · try simp only [Int32.lt_iff_toInt_lt, Int32.le_iff_toInt_le, ← Int32.toInt_inj, Int32.toInt_toInt64, tiA, tlA] at c4
    refine ⟨fun c8 => ?_, fun c8 => ?_⟩
    · try simp only [Int32.lt_iff_toInt_lt, Int32.le_iff_toInt_le, ← Int32.toInt_inj, Int32.toInt_toInt64, tiA, tlA] at c8
      subst hp
      exact ⟨⟨hI, hKr⟩, by first | exact pk_n (by omega) | exact pk_8 (by omega) (by omega)⟩
    · try simp only [Int32.lt_iff_toInt_lt, Int32.le_iff_toInt_le, ← Int32.toInt_inj, Int32.toInt_toInt64, tiA, tlA] at c8
      have hi13 : vp_in a1 6 := vp_of (by first | omega | ((try simp only [Int32.lt_iff_toInt_lt, Int32.le_iff_toInt_le, ← Int32.toInt_inj, Int32.toInt_toInt64, tiA, tlA]); omega) | (split <;> omega)) (by first | omega | ((try simp only [Int32.lt_iff_toInt_lt, Int32.le_iff_toInt_le, ← Int32.toInt_inj, Int32.toInt_toInt64, tiA, tlA]); omega) | (split <;> omega))
      refine ⟨hi13, ?_⟩
      have hz14 := vlt hi13
      have f15 : 0 ≤ (it0 (474 + 2 * a1.toNatClampNeg) 1).toInt ∧ (it0 (474 + 2 * a1.toNatClampNeg) 1).toInt ≤ 60 := i8_6 hI (obt (rtp (vlt (hi13))))
      refine ⟨fun c21 => ?_, fun c21 => ?_⟩
      · try simp only [Int32.lt_iff_toInt_lt, Int32.le_iff_toInt_le, ← Int32.toInt_inj, Int32.toInt_toInt64, tiA, tlA] at c21
        have hi16 : vp_in a1 6 := vp_of (by first | omega | ((try simp only [Int32.lt_iff_toInt_lt, Int32.le_iff_toInt_le, ← Int32.toInt_inj, Int32.toInt_toInt64, tiA, tlA]); omega) | (split <;> omega)) (by first | omega | ((try simp only [Int32.lt_iff_toInt_lt, Int32.le_iff_toInt_le, ← Int32.toInt_inj, Int32.toInt_toInt64, tiA, tlA]); omega) | (split <;> omega))
        refine ⟨hi16, ?_⟩
        have hz17 := vlt hi16
        have hi18 : vp_in a2 60 := vp_of (by first | omega | ((try simp only [Int32.lt_iff_toInt_lt, Int32.le_iff_toInt_le, ← Int32.toInt_inj, Int32.toInt_toInt64, tiA, tlA]); omega) | (split <;> omega)) (by first | omega | ((try simp only [Int32.lt_iff_toInt_lt, Int32.le_iff_toInt_le, ← Int32.toInt_inj, Int32.toInt_toInt64, tiA, tlA]); omega) | (split <;> omega))
        refine ⟨hi18, ?_⟩
        have hz19 := vlt hi18
        subst hp
        exact ⟨⟨hI, hKr⟩, by first | exact pk_n (by omega) | exact pk_8 (by omega) (by omega)⟩
      · try simp only [Int32.lt_iff_toInt_lt, Int32.le_iff_toInt_le, ← Int32.toInt_inj, Int32.toInt_toInt64, tiA, tlA] at c21
        subst hp
        exact ⟨⟨hI, hKr⟩, by first | exact pk_n (by omega) | exact pk_8 (by omega) (by omega)⟩
set_option maxRecDepth 100000 in
theorem p_X9_peek (a1 : Int32) (a2 : Int32) {lg0 : LGt} {it0 : ITt} (hI : I9 lg0 it0) : w_X9_peek a1 a2 (fun (v : Int64) (lg' : LGt) (it' : ITt) => (I9 lg' it' ∧ Kd (fun j => False) (fun k => False) lg0 it0 lg' it') ∧ (v = peekA a1 a2 (it0 519 a1.toNatClampNeg) (f9 lg0 a1.toNatClampNeg a2.toNatClampNeg)))  lg0 it0 := by
  have hb_a1 := And.intro a1.le_toInt a1.toInt_lt
  have hb_a2 := And.intro a2.le_toInt a2.toInt_lt
  have hKr : Kd (fun j => False) (fun k => False) lg0 it0 lg0 it0 := kd_r
  generalize hp : (fun (v : Int64) (lg' : LGt) (it' : ITt) => (I9 lg' it' ∧ Kd (fun j => False) (fun k => False) lg0 it0 lg' it') ∧ (v = peekA a1 a2 (it0 519 a1.toNatClampNeg) (f9 lg0 a1.toNatClampNeg a2.toNatClampNeg))) = Pz
  unfold w_X9_peek
  have t0 := ti_0
  have t9 := ti_9
  have tm1 := ti_m1
  refine ⟨fun c4 => ?_, fun c4 => ?_⟩
  · try simp only [Int32.lt_iff_toInt_lt, Int32.le_iff_toInt_le, ← Int32.toInt_inj, Int32.toInt_toInt64, tiA, tlA] at c4
    subst hp
    exact ⟨⟨hI, hKr⟩, by first | exact pk_n (by omega) | exact pk_9 (by omega) (by omega) (by omega)⟩
  · try simp only [Int32.lt_iff_toInt_lt, Int32.le_iff_toInt_le, ← Int32.toInt_inj, Int32.toInt_toInt64, tiA, tlA] at c4
    have hi9 : vp_in a1 6 := vp_of (by first | omega | ((try simp only [Int32.lt_iff_toInt_lt, Int32.le_iff_toInt_le, ← Int32.toInt_inj, Int32.toInt_toInt64, tiA, tlA]); omega) | (split <;> omega)) (by first | omega | ((try simp only [Int32.lt_iff_toInt_lt, Int32.le_iff_toInt_le, ← Int32.toInt_inj, Int32.toInt_toInt64, tiA, tlA]); omega) | (split <;> omega))
    refine ⟨hi9, ?_⟩
    have hz10 := vlt hi9
    have f11 : 0 ≤ (it0 519 a1.toNatClampNeg).toInt ∧ (it0 519 a1.toNatClampNeg).toInt ≤ 60 := i9_f hI (j := 519) (k := a1.toNatClampNeg) rfl
    try have f12 : (((it0 519 a1.toNatClampNeg) - 1) : Int32).toInt = ((it0 519 a1.toNatClampNeg)).toInt - 1 := sb32 (a := ((it0 519 a1.toNatClampNeg)).toInt) (b := 1) (rfl) (ti_1) (by omega) (by omega)
    refine ⟨fun c22 => ?_, fun c22 => ?_⟩
    · try simp only [Int32.lt_iff_toInt_lt, Int32.le_iff_toInt_le, ← Int32.toInt_inj, Int32.toInt_toInt64, tiA, tlA] at c22
      subst hp
      exact ⟨⟨hI, hKr⟩, by first | exact pk_n (by omega) | exact pk_9 (by omega) (by omega) (by omega)⟩
    · try simp only [Int32.lt_iff_toInt_lt, Int32.le_iff_toInt_le, ← Int32.toInt_inj, Int32.toInt_toInt64, tiA, tlA] at c22
      try have f13 : ((60 * a1) : Int32).toInt = 60 * (a1).toInt := ml32 (a := 60) (b := (a1).toInt) (ti_60) (rfl) (by omega) (by omega)
      try have f14 : (((60 * a1) + a2) : Int32).toInt = ((60 * a1)).toInt + (a2).toInt := ad32 (a := ((60 * a1)).toInt) (b := (a2).toInt) (rfl) (rfl) (by omega) (by omega)
      have hi15 : vp_in ((60 * a1) + a2) 360 := vp_of (by first | omega | ((try simp only [Int32.lt_iff_toInt_lt, Int32.le_iff_toInt_le, ← Int32.toInt_inj, Int32.toInt_toInt64, tiA, tlA]); omega) | (split <;> omega)) (by first | omega | ((try simp only [Int32.lt_iff_toInt_lt, Int32.le_iff_toInt_le, ← Int32.toInt_inj, Int32.toInt_toInt64, tiA, tlA]); omega) | (split <;> omega))
      refine ⟨hi15, ?_⟩
      have hz16 := vlt hi15
      subst hp
      exact ⟨⟨hI, hKr⟩, by first | exact pk_n (by omega) | exact pk_9 (by omega) (by omega) (by omega)⟩
set_option maxRecDepth 100000 in
theorem p_X8_shift (a1 : Int32) (a2 : Int32) (a3 : Int32) (a4 : Int32) (a5 : Int32) {lg0 : LGt} {it0 : ITt} (hI : I8 lg0 it0) (hT : ∀ t : Nat, t < 6 → -1 ≤ (it0 (474 + 2 * t) 0).toInt) : w_X8_shift a1 a2 a3 a4 a5 (fun (v : Int32) (lg' : LGt) (it' : ITt) => (I8 lg' it' ∧ Ki (fun j => (473 ≤ j ∧ j < 486)) lg0 it0 lg' it') ∧ (v = shiftA a1 a2 a3 a4 a5 (it0 (474 + 2 * a1.toNatClampNeg) 0) (it0 (474 + 2 * a1.toNatClampNeg) 1) (it0 (474 + 2 * a3.toNatClampNeg) 0) (it0 (474 + 2 * a3.toNatClampNeg) 1) ∧ SC_ v a1 a2 a3 a4 a5 (f8 lg0) (f8 lg')))  lg0 it0 := by
  have hb_a1 := And.intro a1.le_toInt a1.toInt_lt
  have hb_a2 := And.intro a2.le_toInt a2.toInt_lt
  have hb_a3 := And.intro a3.le_toInt a3.toInt_lt
  have hb_a4 := And.intro a4.le_toInt a4.toInt_lt
  have hb_a5 := And.intro a5.le_toInt a5.toInt_lt
  have hKr : Ki (fun j => (473 ≤ j ∧ j < 486)) lg0 it0 lg0 it0 := ki_r
  generalize hp : (fun (v : Int32) (lg' : LGt) (it' : ITt) => (I8 lg' it' ∧ Ki (fun j => (473 ≤ j ∧ j < 486)) lg0 it0 lg' it') ∧ (v = shiftA a1 a2 a3 a4 a5 (it0 (474 + 2 * a1.toNatClampNeg) 0) (it0 (474 + 2 * a1.toNatClampNeg) 1) (it0 (474 + 2 * a3.toNatClampNeg) 0) (it0 (474 + 2 * a3.toNatClampNeg) 1) ∧ SC_ v a1 a2 a3 a4 a5 (f8 lg0) (f8 lg'))) = Pz
  unfold w_X8_shift
  have hs1 := rt_lo (a := a1) hT
  have hs3 := rt_lo (a := a3) hT
  refine ⟨fun c4 => ?_, fun c4 => ?_⟩
  · try simp only [Int32.lt_iff_toInt_lt, Int32.le_iff_toInt_le, ← Int32.toInt_inj, Int32.toInt_toInt64, tiA, tlA] at c4
    subst hp
    exact ⟨⟨hI, hKr⟩, ⟨by unfold shiftA; first | (rw [if_pos (by omega)]) | (rw [if_neg (by omega), if_pos (by omega)]) | (rw [if_neg (by omega), if_neg (by omega), if_pos (by omega)]) | (rw [if_neg (by omega), if_neg (by omega), if_neg (by omega), if_pos (by omega)]) | (rw [if_neg (by omega), if_neg (by omega), if_neg (by omega), if_neg (by omega)]) | (rw [if_neg (by omega), if_neg (by omega), if_neg (by omega)]), by first | exact SC_0 (by decide) | exact SC_8 (by assumption) (by omega) (by omega)⟩⟩
  · try simp only [Int32.lt_iff_toInt_lt, Int32.le_iff_toInt_le, ← Int32.toInt_inj, Int32.toInt_toInt64, tiA, tlA] at c4
    refine ⟨fun c11 => ?_, fun c11 => ?_⟩
    · try simp only [Int32.lt_iff_toInt_lt, Int32.le_iff_toInt_le, ← Int32.toInt_inj, Int32.toInt_toInt64, tiA, tlA] at c11
      have hi29 : vp_in a1 6 := vp_of (by first | omega | ((try simp only [Int32.lt_iff_toInt_lt, Int32.le_iff_toInt_le, ← Int32.toInt_inj, Int32.toInt_toInt64, tiA, tlA]); omega) | (split <;> omega)) (by first | omega | ((try simp only [Int32.lt_iff_toInt_lt, Int32.le_iff_toInt_le, ← Int32.toInt_inj, Int32.toInt_toInt64, tiA, tlA]); omega) | (split <;> omega))
      refine ⟨hi29, ?_⟩
      have hz30 := vlt hi29
      have hi31 : vp_in a3 6 := vp_of (by first | omega | ((try simp only [Int32.lt_iff_toInt_lt, Int32.le_iff_toInt_le, ← Int32.toInt_inj, Int32.toInt_toInt64, tiA, tlA]); omega) | (split <;> omega)) (by first | omega | ((try simp only [Int32.lt_iff_toInt_lt, Int32.le_iff_toInt_le, ← Int32.toInt_inj, Int32.toInt_toInt64, tiA, tlA]); omega) | (split <;> omega))
      refine ⟨hi31, ?_⟩
      have hz32 := vlt hi31
      refine ⟨fun c38 => ?_, fun c38 => ?_⟩
      · try simp only [Int32.lt_iff_toInt_lt, Int32.le_iff_toInt_le, ← Int32.toInt_inj, Int32.toInt_toInt64, tiA, tlA] at c38
        subst hp
        exact ⟨⟨hI, hKr⟩, ⟨by unfold shiftA; first | (rw [if_pos (by omega)]) | (rw [if_neg (by omega), if_pos (by omega)]) | (rw [if_neg (by omega), if_neg (by omega), if_pos (by omega)]) | (rw [if_neg (by omega), if_neg (by omega), if_neg (by omega), if_pos (by omega)]) | (rw [if_neg (by omega), if_neg (by omega), if_neg (by omega), if_neg (by omega)]) | (rw [if_neg (by omega), if_neg (by omega), if_neg (by omega)]), by first | exact SC_0 (by decide) | exact SC_8 (by assumption) (by omega) (by omega)⟩⟩
      · try simp only [Int32.lt_iff_toInt_lt, Int32.le_iff_toInt_le, ← Int32.toInt_inj, Int32.toInt_toInt64, tiA, tlA] at c38
        refine ⟨fun c47 => ?_, fun c47 => ?_⟩
        · try simp only [Int32.lt_iff_toInt_lt, Int32.le_iff_toInt_le, ← Int32.toInt_inj, Int32.toInt_toInt64, tiA, tlA] at c47
          refine ⟨fun c63 => ?_, fun c63 => ?_⟩
          · try simp only [Int32.lt_iff_toInt_lt, Int32.le_iff_toInt_le, ← Int32.toInt_inj, Int32.toInt_toInt64, tiA, tlA] at c63
            refine ⟨fun c71 => ?_, fun c71 => ?_⟩
            · try simp only [Int32.lt_iff_toInt_lt, Int32.le_iff_toInt_le, ← Int32.toInt_inj, Int32.toInt_toInt64, tiA, tlA] at c71
              subst hp
              exact ⟨⟨hI, hKr⟩, ⟨by unfold shiftA; first | (rw [if_pos (by omega)]) | (rw [if_neg (by omega), if_pos (by omega)]) | (rw [if_neg (by omega), if_neg (by omega), if_pos (by omega)]) | (rw [if_neg (by omega), if_neg (by omega), if_neg (by omega), if_pos (by omega)]) | (rw [if_neg (by omega), if_neg (by omega), if_neg (by omega), if_neg (by omega)]) | (rw [if_neg (by omega), if_neg (by omega), if_neg (by omega)]), by first | exact SC_0 (by decide) | exact SC_8 (by assumption) (by omega) (by omega)⟩⟩
            · try simp only [Int32.lt_iff_toInt_lt, Int32.le_iff_toInt_le, ← Int32.toInt_inj, Int32.toInt_toInt64, tiA, tlA] at c71
              refine ⟨fun c75 => ?_, fun c75 => ?_⟩
              · try simp only [Int32.lt_iff_toInt_lt, Int32.le_iff_toInt_le, ← Int32.toInt_inj, Int32.toInt_toInt64, tiA, tlA] at c75
                subst hp
                exact ⟨⟨hI, hKr⟩, ⟨by unfold shiftA; first | (rw [if_pos (by omega)]) | (rw [if_neg (by omega), if_pos (by omega)]) | (rw [if_neg (by omega), if_neg (by omega), if_pos (by omega)]) | (rw [if_neg (by omega), if_neg (by omega), if_neg (by omega), if_pos (by omega)]) | (rw [if_neg (by omega), if_neg (by omega), if_neg (by omega), if_neg (by omega)]) | (rw [if_neg (by omega), if_neg (by omega), if_neg (by omega)]), by first | exact SC_0 (by decide) | exact SC_8 (by assumption) (by omega) (by omega)⟩⟩
              · try simp only [Int32.lt_iff_toInt_lt, Int32.le_iff_toInt_le, ← Int32.toInt_inj, Int32.toInt_toInt64, tiA, tlA] at c75
                refine ⟨fun c80 => ?_, fun c80 => ?_⟩
                · try simp only [Int32.lt_iff_toInt_lt, Int32.le_iff_toInt_le, ← Int32.toInt_inj, Int32.toInt_toInt64, tiA, tlA] at c80
                  subst hp
                  exact ⟨⟨hI, hKr⟩, ⟨by unfold shiftA; first | (rw [if_pos (by omega)]) | (rw [if_neg (by omega), if_pos (by omega)]) | (rw [if_neg (by omega), if_neg (by omega), if_pos (by omega)]) | (rw [if_neg (by omega), if_neg (by omega), if_neg (by omega), if_pos (by omega)]) | (rw [if_neg (by omega), if_neg (by omega), if_neg (by omega), if_neg (by omega)]) | (rw [if_neg (by omega), if_neg (by omega), if_neg (by omega)]), by first | exact SC_0 (by decide) | exact SC_8 (by assumption) (by omega) (by omega)⟩⟩
                · try simp only [Int32.lt_iff_toInt_lt, Int32.le_iff_toInt_le, ← Int32.toInt_inj, Int32.toInt_toInt64, tiA, tlA] at c80
                  have f33 : 0 ≤ (it0 (474 + 2 * a1.toNatClampNeg) 1).toInt ∧ (it0 (474 + 2 * a1.toNatClampNeg) 1).toInt ≤ 60 := i8_6 hI (obt (rtp (vlt (hi29))))
                  try have f34 : (((it0 (474 + 2 * a1.toNatClampNeg) 1) - a5) : Int32).toInt = ((it0 (474 + 2 * a1.toNatClampNeg) 1)).toInt - (a5).toInt := sb32 (a := ((it0 (474 + 2 * a1.toNatClampNeg) 1)).toInt) (b := (a5).toInt) (rfl) (rfl) (by omega) (by omega)
                  refine ⟨fun c92 => ?_, fun c92 => ?_⟩
                  · try simp only [Int32.lt_iff_toInt_lt, Int32.le_iff_toInt_le, ← Int32.toInt_inj, Int32.toInt_toInt64, tiA, tlA] at c92
                    subst hp
                    exact ⟨⟨hI, hKr⟩, ⟨by unfold shiftA; first | (rw [if_pos (by omega)]) | (rw [if_neg (by omega), if_pos (by omega)]) | (rw [if_neg (by omega), if_neg (by omega), if_pos (by omega)]) | (rw [if_neg (by omega), if_neg (by omega), if_neg (by omega), if_pos (by omega)]) | (rw [if_neg (by omega), if_neg (by omega), if_neg (by omega), if_neg (by omega)]) | (rw [if_neg (by omega), if_neg (by omega), if_neg (by omega)]), by first | exact SC_0 (by decide) | exact SC_8 (by assumption) (by omega) (by omega)⟩⟩
                  · try simp only [Int32.lt_iff_toInt_lt, Int32.le_iff_toInt_le, ← Int32.toInt_inj, Int32.toInt_toInt64, tiA, tlA] at c92
                    have f35 : 0 ≤ (it0 (474 + 2 * a3.toNatClampNeg) 1).toInt ∧ (it0 (474 + 2 * a3.toNatClampNeg) 1).toInt ≤ 60 := i8_6 hI (obt (rtp (vlt (hi31))))
                    try have f36 : (((it0 (474 + 2 * a3.toNatClampNeg) 1) - a5) : Int32).toInt = ((it0 (474 + 2 * a3.toNatClampNeg) 1)).toInt - (a5).toInt := sb32 (a := ((it0 (474 + 2 * a3.toNatClampNeg) 1)).toInt) (b := (a5).toInt) (rfl) (rfl) (by omega) (by omega)
                    refine ⟨fun c105 => ?_, fun c105 => ?_⟩
                    · try simp only [Int32.lt_iff_toInt_lt, Int32.le_iff_toInt_le, ← Int32.toInt_inj, Int32.toInt_toInt64, tiA, tlA] at c105
                      have hc38 : cpc ((474 + 2 * a1.toNatClampNeg) + 1) ((474 + 2 * a3.toNatClampNeg) + 1) NT 12 a2 a4 a5 := ⟨⟨tob (rtp (vlt (hi29))), tob (rtp (vlt (hi31)))⟩, ⟨by rw [Int32.lt_iff_toInt_lt, ti_0]; omega, by rw [Int32.lt_iff_toInt_lt, ti_0]; omega, by rw [Int32.lt_iff_toInt_lt, ti_0]; omega⟩, by rw [tln (rtp (vlt (hi29)))]; have z1 := cl32 (i := a2) (by omega); have z2 := cl32 (i := a5) (by omega); omega, by rw [tln (rtp (vlt (hi31)))]; have z1 := cl32 (i := a4) (by omega); have z2 := cl32 (i := a5) (by omega); omega⟩
                      refine ⟨hc38, ?_⟩
                      intro lg37 em_lg37
                      have hI39 : I8 lg37 it0 := hI
                      have hK40 : Ki (fun j => (473 ≤ j ∧ j < 486)) lg0 it0 lg37 it0 := by rw [em_lg37]; exact ki_cpl (by first | omega | (dsimp only; omega)) hKr
                      subst hp
                      exact ⟨⟨hI39, hK40⟩, ⟨by unfold shiftA; first | (rw [if_pos (by omega)]) | (rw [if_neg (by omega), if_pos (by omega)]) | (rw [if_neg (by omega), if_neg (by omega), if_pos (by omega)]) | (rw [if_neg (by omega), if_neg (by omega), if_neg (by omega), if_pos (by omega)]) | (rw [if_neg (by omega), if_neg (by omega), if_neg (by omega), if_neg (by omega)]) | (rw [if_neg (by omega), if_neg (by omega), if_neg (by omega)]), by first | exact SC_0 (by decide) | exact SC_8 (by assumption) (by omega) (by omega)⟩⟩
                    · try simp only [Int32.lt_iff_toInt_lt, Int32.le_iff_toInt_le, ← Int32.toInt_inj, Int32.toInt_toInt64, tiA, tlA] at c105
                      subst hp
                      exact ⟨⟨hI, hKr⟩, ⟨by unfold shiftA; first | (rw [if_pos (by omega)]) | (rw [if_neg (by omega), if_pos (by omega)]) | (rw [if_neg (by omega), if_neg (by omega), if_pos (by omega)]) | (rw [if_neg (by omega), if_neg (by omega), if_neg (by omega), if_pos (by omega)]) | (rw [if_neg (by omega), if_neg (by omega), if_neg (by omega), if_neg (by omega)]) | (rw [if_neg (by omega), if_neg (by omega), if_neg (by omega)]), by first | exact SC_0 (by decide) | exact SC_8 (by assumption) (by omega) (by omega)⟩⟩
          · try simp only [Int32.lt_iff_toInt_lt, Int32.le_iff_toInt_le, ← Int32.toInt_inj, Int32.toInt_toInt64, tiA, tlA] at c63
            subst hp
            exact ⟨⟨hI, hKr⟩, ⟨by unfold shiftA; first | (rw [if_pos (by omega)]) | (rw [if_neg (by omega), if_pos (by omega)]) | (rw [if_neg (by omega), if_neg (by omega), if_pos (by omega)]) | (rw [if_neg (by omega), if_neg (by omega), if_neg (by omega), if_pos (by omega)]) | (rw [if_neg (by omega), if_neg (by omega), if_neg (by omega), if_neg (by omega)]) | (rw [if_neg (by omega), if_neg (by omega), if_neg (by omega)]), by first | exact SC_0 (by decide) | exact SC_8 (by assumption) (by omega) (by omega)⟩⟩
        · try simp only [Int32.lt_iff_toInt_lt, Int32.le_iff_toInt_le, ← Int32.toInt_inj, Int32.toInt_toInt64, tiA, tlA] at c47
          subst hp
          exact ⟨⟨hI, hKr⟩, ⟨by unfold shiftA; first | (rw [if_pos (by omega)]) | (rw [if_neg (by omega), if_pos (by omega)]) | (rw [if_neg (by omega), if_neg (by omega), if_pos (by omega)]) | (rw [if_neg (by omega), if_neg (by omega), if_neg (by omega), if_pos (by omega)]) | (rw [if_neg (by omega), if_neg (by omega), if_neg (by omega), if_neg (by omega)]) | (rw [if_neg (by omega), if_neg (by omega), if_neg (by omega)]), by first | exact SC_0 (by decide) | exact SC_8 (by assumption) (by omega) (by omega)⟩⟩
    · try simp only [Int32.lt_iff_toInt_lt, Int32.le_iff_toInt_le, ← Int32.toInt_inj, Int32.toInt_toInt64, tiA, tlA] at c11
      subst hp
      exact ⟨⟨hI, hKr⟩, ⟨by unfold shiftA; first | (rw [if_pos (by omega)]) | (rw [if_neg (by omega), if_pos (by omega)]) | (rw [if_neg (by omega), if_neg (by omega), if_pos (by omega)]) | (rw [if_neg (by omega), if_neg (by omega), if_neg (by omega), if_pos (by omega)]) | (rw [if_neg (by omega), if_neg (by omega), if_neg (by omega), if_neg (by omega)]) | (rw [if_neg (by omega), if_neg (by omega), if_neg (by omega)]), by first | exact SC_0 (by decide) | exact SC_8 (by assumption) (by omega) (by omega)⟩⟩
set_option maxRecDepth 100000 in
theorem p_X9_shift (a1 : Int32) (a2 : Int32) (a3 : Int32) (a4 : Int32) (a5 : Int32) {lg0 : LGt} {it0 : ITt} (hI : I9 lg0 it0) : w_X9_shift a1 a2 a3 a4 a5 (fun (v : Int32) (lg' : LGt) (it' : ITt) => (I9 lg' it' ∧ Kd (fun j => j = 520 ∨ j = 521) (fun k => False) lg0 it0 lg' it') ∧ (v = shiftA a1 a2 a3 a4 a5 (it0 518 a1.toNatClampNeg) (it0 519 a1.toNatClampNeg) (it0 518 a3.toNatClampNeg) (it0 519 a3.toNatClampNeg) ∧ SC_ v a1 a2 a3 a4 a5 (f9 lg0) (f9 lg')))  lg0 it0 := by
  have hb_a1 := And.intro a1.le_toInt a1.toInt_lt
  have hb_a2 := And.intro a2.le_toInt a2.toInt_lt
  have hb_a3 := And.intro a3.le_toInt a3.toInt_lt
  have hb_a4 := And.intro a4.le_toInt a4.toInt_lt
  have hb_a5 := And.intro a5.le_toInt a5.toInt_lt
  have hKr : Kd (fun j => j = 520 ∨ j = 521) (fun k => False) lg0 it0 lg0 it0 := kd_r
  generalize hp : (fun (v : Int32) (lg' : LGt) (it' : ITt) => (I9 lg' it' ∧ Kd (fun j => j = 520 ∨ j = 521) (fun k => False) lg0 it0 lg' it') ∧ (v = shiftA a1 a2 a3 a4 a5 (it0 518 a1.toNatClampNeg) (it0 519 a1.toNatClampNeg) (it0 518 a3.toNatClampNeg) (it0 519 a3.toNatClampNeg) ∧ SC_ v a1 a2 a3 a4 a5 (f9 lg0) (f9 lg'))) = Pz
  unfold w_X9_shift
  have t0 := ti_0
  have t9 := ti_9
  have tm1 := ti_m1
  have b1 := i9_f hI (j := 519) (k := a1.toNatClampNeg) rfl
  have b3 := i9_f hI (j := 519) (k := a3.toNatClampNeg) rfl
  refine ⟨fun c4 => ?_, fun c4 => ?_⟩
  · try simp only [Int32.lt_iff_toInt_lt, Int32.le_iff_toInt_le, ← Int32.toInt_inj, Int32.toInt_toInt64, tiA, tlA] at c4
    subst hp
    exact ⟨⟨hI, hKr⟩, ⟨by unfold shiftA; first | (rw [if_pos (by omega)]) | (rw [if_neg (by omega), if_pos (by omega)]) | (rw [if_neg (by omega), if_neg (by omega), if_pos (by omega)]) | (rw [if_neg (by omega), if_neg (by omega), if_neg (by omega), if_pos (by omega)]) | (rw [if_neg (by omega), if_neg (by omega), if_neg (by omega), if_neg (by omega)]) | (rw [if_neg (by omega), if_neg (by omega), if_neg (by omega)]), by first | exact SC_0 (by decide) | exact SC_9 hv139_3 (by omega) (by omega) (by omega) (by omega) (by omega) (by omega)⟩⟩
  · try simp only [Int32.lt_iff_toInt_lt, Int32.le_iff_toInt_le, ← Int32.toInt_inj, Int32.toInt_toInt64, tiA, tlA] at c4
    refine ⟨fun c11 => ?_, fun c11 => ?_⟩
    · try simp only [Int32.lt_iff_toInt_lt, Int32.le_iff_toInt_le, ← Int32.toInt_inj, Int32.toInt_toInt64, tiA, tlA] at c11
      have hi47 : vp_in a1 6 := vp_of (by first | omega | ((try simp only [Int32.lt_iff_toInt_lt, Int32.le_iff_toInt_le, ← Int32.toInt_inj, Int32.toInt_toInt64, tiA, tlA]); omega) | (split <;> omega)) (by first | omega | ((try simp only [Int32.lt_iff_toInt_lt, Int32.le_iff_toInt_le, ← Int32.toInt_inj, Int32.toInt_toInt64, tiA, tlA]); omega) | (split <;> omega))
      refine ⟨hi47, ?_⟩
      have hz48 := vlt hi47
      refine ⟨fun c22 => ?_, fun c22 => ?_⟩
      · try simp only [Int32.lt_iff_toInt_lt, Int32.le_iff_toInt_le, ← Int32.toInt_inj, Int32.toInt_toInt64, tiA, tlA] at c22
        subst hp
        exact ⟨⟨hI, hKr⟩, ⟨by unfold shiftA; first | (rw [if_pos (by omega)]) | (rw [if_neg (by omega), if_pos (by omega)]) | (rw [if_neg (by omega), if_neg (by omega), if_pos (by omega)]) | (rw [if_neg (by omega), if_neg (by omega), if_neg (by omega), if_pos (by omega)]) | (rw [if_neg (by omega), if_neg (by omega), if_neg (by omega), if_neg (by omega)]) | (rw [if_neg (by omega), if_neg (by omega), if_neg (by omega)]), by first | exact SC_0 (by decide) | exact SC_9 hv139_3 (by omega) (by omega) (by omega) (by omega) (by omega) (by omega)⟩⟩
      · try simp only [Int32.lt_iff_toInt_lt, Int32.le_iff_toInt_le, ← Int32.toInt_inj, Int32.toInt_toInt64, tiA, tlA] at c22
        have hi49 : vp_in a3 6 := vp_of (by first | omega | ((try simp only [Int32.lt_iff_toInt_lt, Int32.le_iff_toInt_le, ← Int32.toInt_inj, Int32.toInt_toInt64, tiA, tlA]); omega) | (split <;> omega)) (by first | omega | ((try simp only [Int32.lt_iff_toInt_lt, Int32.le_iff_toInt_le, ← Int32.toInt_inj, Int32.toInt_toInt64, tiA, tlA]); omega) | (split <;> omega))
        refine ⟨hi49, ?_⟩
        have hz50 := vlt hi49
        refine ⟨fun c31 => ?_, fun c31 => ?_⟩
        · try simp only [Int32.lt_iff_toInt_lt, Int32.le_iff_toInt_le, ← Int32.toInt_inj, Int32.toInt_toInt64, tiA, tlA] at c31
          have hi51 : vp_in a1 6 := vp_of (by first | omega | ((try simp only [Int32.lt_iff_toInt_lt, Int32.le_iff_toInt_le, ← Int32.toInt_inj, Int32.toInt_toInt64, tiA, tlA]); omega) | (split <;> omega)) (by first | omega | ((try simp only [Int32.lt_iff_toInt_lt, Int32.le_iff_toInt_le, ← Int32.toInt_inj, Int32.toInt_toInt64, tiA, tlA]); omega) | (split <;> omega))
          refine ⟨hi51, ?_⟩
          have hz52 := vlt hi51
          have hi53 : vp_in a3 6 := vp_of (by first | omega | ((try simp only [Int32.lt_iff_toInt_lt, Int32.le_iff_toInt_le, ← Int32.toInt_inj, Int32.toInt_toInt64, tiA, tlA]); omega) | (split <;> omega)) (by first | omega | ((try simp only [Int32.lt_iff_toInt_lt, Int32.le_iff_toInt_le, ← Int32.toInt_inj, Int32.toInt_toInt64, tiA, tlA]); omega) | (split <;> omega))
          refine ⟨hi53, ?_⟩
          have hz54 := vlt hi53
          refine ⟨fun c49 => ?_, fun c49 => ?_⟩
          · try simp only [Int32.lt_iff_toInt_lt, Int32.le_iff_toInt_le, ← Int32.toInt_inj, Int32.toInt_toInt64, tiA, tlA] at c49
            refine ⟨fun c57 => ?_, fun c57 => ?_⟩
            · try simp only [Int32.lt_iff_toInt_lt, Int32.le_iff_toInt_le, ← Int32.toInt_inj, Int32.toInt_toInt64, tiA, tlA] at c57
              subst hp
              exact ⟨⟨hI, hKr⟩, ⟨by unfold shiftA; first | (rw [if_pos (by omega)]) | (rw [if_neg (by omega), if_pos (by omega)]) | (rw [if_neg (by omega), if_neg (by omega), if_pos (by omega)]) | (rw [if_neg (by omega), if_neg (by omega), if_neg (by omega), if_pos (by omega)]) | (rw [if_neg (by omega), if_neg (by omega), if_neg (by omega), if_neg (by omega)]) | (rw [if_neg (by omega), if_neg (by omega), if_neg (by omega)]), by first | exact SC_0 (by decide) | exact SC_9 hv139_3 (by omega) (by omega) (by omega) (by omega) (by omega) (by omega)⟩⟩
            · try simp only [Int32.lt_iff_toInt_lt, Int32.le_iff_toInt_le, ← Int32.toInt_inj, Int32.toInt_toInt64, tiA, tlA] at c57
              refine ⟨fun c61 => ?_, fun c61 => ?_⟩
              · try simp only [Int32.lt_iff_toInt_lt, Int32.le_iff_toInt_le, ← Int32.toInt_inj, Int32.toInt_toInt64, tiA, tlA] at c61
                subst hp
                exact ⟨⟨hI, hKr⟩, ⟨by unfold shiftA; first | (rw [if_pos (by omega)]) | (rw [if_neg (by omega), if_pos (by omega)]) | (rw [if_neg (by omega), if_neg (by omega), if_pos (by omega)]) | (rw [if_neg (by omega), if_neg (by omega), if_neg (by omega), if_pos (by omega)]) | (rw [if_neg (by omega), if_neg (by omega), if_neg (by omega), if_neg (by omega)]) | (rw [if_neg (by omega), if_neg (by omega), if_neg (by omega)]), by first | exact SC_0 (by decide) | exact SC_9 hv139_3 (by omega) (by omega) (by omega) (by omega) (by omega) (by omega)⟩⟩
              · try simp only [Int32.lt_iff_toInt_lt, Int32.le_iff_toInt_le, ← Int32.toInt_inj, Int32.toInt_toInt64, tiA, tlA] at c61
                refine ⟨fun c66 => ?_, fun c66 => ?_⟩
                · try simp only [Int32.lt_iff_toInt_lt, Int32.le_iff_toInt_le, ← Int32.toInt_inj, Int32.toInt_toInt64, tiA, tlA] at c66
                  subst hp
                  exact ⟨⟨hI, hKr⟩, ⟨by unfold shiftA; first | (rw [if_pos (by omega)]) | (rw [if_neg (by omega), if_pos (by omega)]) | (rw [if_neg (by omega), if_neg (by omega), if_pos (by omega)]) | (rw [if_neg (by omega), if_neg (by omega), if_neg (by omega), if_pos (by omega)]) | (rw [if_neg (by omega), if_neg (by omega), if_neg (by omega), if_neg (by omega)]) | (rw [if_neg (by omega), if_neg (by omega), if_neg (by omega)]), by first | exact SC_0 (by decide) | exact SC_9 hv139_3 (by omega) (by omega) (by omega) (by omega) (by omega) (by omega)⟩⟩
                · try simp only [Int32.lt_iff_toInt_lt, Int32.le_iff_toInt_le, ← Int32.toInt_inj, Int32.toInt_toInt64, tiA, tlA] at c66
                  have hi55 : vp_in a1 6 := vp_of (by first | omega | ((try simp only [Int32.lt_iff_toInt_lt, Int32.le_iff_toInt_le, ← Int32.toInt_inj, Int32.toInt_toInt64, tiA, tlA]); omega) | (split <;> omega)) (by first | omega | ((try simp only [Int32.lt_iff_toInt_lt, Int32.le_iff_toInt_le, ← Int32.toInt_inj, Int32.toInt_toInt64, tiA, tlA]); omega) | (split <;> omega))
                  refine ⟨hi55, ?_⟩
                  have hz56 := vlt hi55
                  have f57 : 0 ≤ (it0 519 a1.toNatClampNeg).toInt ∧ (it0 519 a1.toNatClampNeg).toInt ≤ 60 := i9_f hI (j := 519) (k := a1.toNatClampNeg) rfl
                  try have f58 : (((it0 519 a1.toNatClampNeg) - a2) : Int32).toInt = ((it0 519 a1.toNatClampNeg)).toInt - (a2).toInt := sb32 (a := ((it0 519 a1.toNatClampNeg)).toInt) (b := (a2).toInt) (rfl) (rfl) (by omega) (by omega)
                  refine ⟨fun c79 => ?_, fun c79 => ?_⟩
                  · try simp only [Int32.lt_iff_toInt_lt, Int32.le_iff_toInt_le, ← Int32.toInt_inj, Int32.toInt_toInt64, tiA, tlA] at c79
                    subst hp
                    exact ⟨⟨hI, hKr⟩, ⟨by unfold shiftA; first | (rw [if_pos (by omega)]) | (rw [if_neg (by omega), if_pos (by omega)]) | (rw [if_neg (by omega), if_neg (by omega), if_pos (by omega)]) | (rw [if_neg (by omega), if_neg (by omega), if_neg (by omega), if_pos (by omega)]) | (rw [if_neg (by omega), if_neg (by omega), if_neg (by omega), if_neg (by omega)]) | (rw [if_neg (by omega), if_neg (by omega), if_neg (by omega)]), by first | exact SC_0 (by decide) | exact SC_9 hv139_3 (by omega) (by omega) (by omega) (by omega) (by omega) (by omega)⟩⟩
                  · try simp only [Int32.lt_iff_toInt_lt, Int32.le_iff_toInt_le, ← Int32.toInt_inj, Int32.toInt_toInt64, tiA, tlA] at c79
                    have hi59 : vp_in a3 6 := vp_of (by first | omega | ((try simp only [Int32.lt_iff_toInt_lt, Int32.le_iff_toInt_le, ← Int32.toInt_inj, Int32.toInt_toInt64, tiA, tlA]); omega) | (split <;> omega)) (by first | omega | ((try simp only [Int32.lt_iff_toInt_lt, Int32.le_iff_toInt_le, ← Int32.toInt_inj, Int32.toInt_toInt64, tiA, tlA]); omega) | (split <;> omega))
                    refine ⟨hi59, ?_⟩
                    have hz60 := vlt hi59
                    have f61 : 0 ≤ (it0 519 a3.toNatClampNeg).toInt ∧ (it0 519 a3.toNatClampNeg).toInt ≤ 60 := i9_f hI (j := 519) (k := a3.toNatClampNeg) rfl
                    try have f62 : (((it0 519 a3.toNatClampNeg) - a4) : Int32).toInt = ((it0 519 a3.toNatClampNeg)).toInt - (a4).toInt := sb32 (a := ((it0 519 a3.toNatClampNeg)).toInt) (b := (a4).toInt) (rfl) (rfl) (by omega) (by omega)
                    refine ⟨fun c93 => ?_, fun c93 => ?_⟩
                    · try simp only [Int32.lt_iff_toInt_lt, Int32.le_iff_toInt_le, ← Int32.toInt_inj, Int32.toInt_toInt64, tiA, tlA] at c93
                      have lp102 : ∀ (n : Nat) (x6 : Int32) (lg : LGt) (it : ITt), I9 lg it → Kd (fun j => j = 520 ∨ j = 521) (fun k => False) lg0 it0 lg it → ((0 ≤ (x6).toInt) ∧ ((x6).toInt ≤ a5.toInt) ∧ (MVi x6 a1 a2 lg0 lg) ∧ (lg 520 = lg0 520)) → (61 - (x6).toInt).toNat < n → w_X9_shift_b102 a1 a2 a3 a4 a5 Pz  n x6 lg it := by
                        intro n102
                        induction n102 with
                        | zero => intro x6 lg it _ _ _ hn; exact absurd hn (Nat.not_lt_zero _)
                        | succ n102 ih102 =>
                          intro x6 lg65 it66 hI63 hK64 hv hn
                          unfold w_X9_shift_b102
                          obtain ⟨hv102_0, hv102_1, hv102_2, hv102_3⟩ := hv
                          refine ⟨fun c106 => ?_, fun c106 => ?_⟩
                          · try simp only [Int32.lt_iff_toInt_lt, Int32.le_iff_toInt_le, ← Int32.toInt_inj, Int32.toInt_toInt64, tiA, tlA] at c106
                            have lp139 : ∀ (n : Nat) (x6 : Int32) (lg : LGt) (it : ITt), I9 lg it → Kd (fun j => j = 520 ∨ j = 521) (fun k => False) lg0 it0 lg it → ((0 ≤ (x6).toInt) ∧ ((x6).toInt ≤ a5.toInt) ∧ (MVi a5 a1 a2 lg0 lg) ∧ (LD x6 a1 a2 a3 a4 lg0 lg)) → (61 - (x6).toInt).toNat < n → w_X9_shift_b139 a1 a2 a3 a4 a5 Pz  n x6 lg it := by
                              intro n139
                              induction n139 with
                              | zero => intro x6 lg it _ _ _ hn; exact absurd hn (Nat.not_lt_zero _)
                              | succ n139 ih139 =>
                                intro x6 lg69 it70 hI67 hK68 hv hn
                                unfold w_X9_shift_b139
                                obtain ⟨hv139_0, hv139_1, hv139_2, hv139_3⟩ := hv
                                refine ⟨fun c143 => ?_, fun c143 => ?_⟩
                                · try simp only [Int32.lt_iff_toInt_lt, Int32.le_iff_toInt_le, ← Int32.toInt_inj, Int32.toInt_toInt64, tiA, tlA] at c143
                                  subst hp
                                  exact ⟨⟨hI67, hK68⟩, ⟨by unfold shiftA; first | (rw [if_pos (by omega)]) | (rw [if_neg (by omega), if_pos (by omega)]) | (rw [if_neg (by omega), if_neg (by omega), if_pos (by omega)]) | (rw [if_neg (by omega), if_neg (by omega), if_neg (by omega), if_pos (by omega)]) | (rw [if_neg (by omega), if_neg (by omega), if_neg (by omega), if_neg (by omega)]) | (rw [if_neg (by omega), if_neg (by omega), if_neg (by omega)]), by first | exact SC_0 (by decide) | exact SC_9 hv139_3 (by omega) (by omega) (by omega) (by omega) (by omega) (by omega)⟩⟩
                                · try simp only [Int32.lt_iff_toInt_lt, Int32.le_iff_toInt_le, ← Int32.toInt_inj, Int32.toInt_toInt64, tiA, tlA] at c143
                                  try have f71 : ((60 * a3) : Int32).toInt = 60 * (a3).toInt := ml32 (a := 60) (b := (a3).toInt) (ti_60) (rfl) (by omega) (by omega)
                                  try have f72 : (((60 * a3) + a4) : Int32).toInt = ((60 * a3)).toInt + (a4).toInt := ad32 (a := ((60 * a3)).toInt) (b := (a4).toInt) (rfl) (rfl) (by omega) (by omega)
                                  try have f73 : ((((60 * a3) + a4) + x6) : Int32).toInt = (((60 * a3) + a4)).toInt + (x6).toInt := ad32 (a := (((60 * a3) + a4)).toInt) (b := (x6).toInt) (rfl) (rfl) (by omega) (by omega)
                                  have hi74 : vp_in x6 60 := vp_of (by first | omega | ((try simp only [Int32.lt_iff_toInt_lt, Int32.le_iff_toInt_le, ← Int32.toInt_inj, Int32.toInt_toInt64, tiA, tlA]); omega) | (split <;> omega)) (by first | omega | ((try simp only [Int32.lt_iff_toInt_lt, Int32.le_iff_toInt_le, ← Int32.toInt_inj, Int32.toInt_toInt64, tiA, tlA]); omega) | (split <;> omega))
                                  refine ⟨hi74, ?_⟩
                                  have hz75 := vlt hi74
                                  have hi76 : vp_in (((60 * a3) + a4) + x6) 360 := vp_of (by first | omega | ((try simp only [Int32.lt_iff_toInt_lt, Int32.le_iff_toInt_le, ← Int32.toInt_inj, Int32.toInt_toInt64, tiA, tlA]); omega) | (split <;> omega)) (by first | omega | ((try simp only [Int32.lt_iff_toInt_lt, Int32.le_iff_toInt_le, ← Int32.toInt_inj, Int32.toInt_toInt64, tiA, tlA]); omega) | (split <;> omega))
                                  refine ⟨hi76, ?_⟩
                                  have hz77 := vlt hi76
                                  intro lg78 em79
                                  have hI80 : I9 lg78 it70 := by rw [em79]; exact i9_l hI67 (by decide) (by decide) (by decide)
                                  have hK81 : Kd (fun j => j = 520 ∨ j = 521) (fun k => False) lg0 it0 lg78 it70 := by rw [em79]; exact kd_lr (by decide) (by first | decide | (dsimp only; decide) | omega | (dsimp only; omega)) hK68
                                  try have f82 : ((x6 + 1) : Int32).toInt = (x6).toInt + 1 := ad32 (a := (x6).toInt) (b := 1) (rfl) (ti_1) (by omega) (by omega)
                                  exact ih139 ((x6 + 1)) _ _ hI80 hK81 ⟨by omega, by omega, MVi_k (by assumption) hv139_2, LD_s (by assumption) hv139_3 hv139_2 ⟨by omega, by omega⟩ (by omega) (by omega) (by omega) (by omega) (by omega)⟩ (by omega)
                            have t83 := ti_0
                            exact ⟨_, lp139 ((61 - ((0 : Int32)).toInt).toNat + 1) ((0 : Int32)) _ _ hI63 hK64 ⟨by omega, by omega, (fun k h1 h2 => hv102_2 k h1 (by omega)), LD_0 ti_0 (by omega) (by omega) hv102_3⟩ (Nat.lt_succ_self _)⟩
                          · try simp only [Int32.lt_iff_toInt_lt, Int32.le_iff_toInt_le, ← Int32.toInt_inj, Int32.toInt_toInt64, tiA, tlA] at c106
                            try have f84 : ((60 * a1) : Int32).toInt = 60 * (a1).toInt := ml32 (a := 60) (b := (a1).toInt) (ti_60) (rfl) (by omega) (by omega)
                            try have f85 : (((60 * a1) + a2) : Int32).toInt = ((60 * a1)).toInt + (a2).toInt := ad32 (a := ((60 * a1)).toInt) (b := (a2).toInt) (rfl) (rfl) (by omega) (by omega)
                            try have f86 : ((((60 * a1) + a2) + x6) : Int32).toInt = (((60 * a1) + a2)).toInt + (x6).toInt := ad32 (a := (((60 * a1) + a2)).toInt) (b := (x6).toInt) (rfl) (rfl) (by omega) (by omega)
                            have hi87 : vp_in (((60 * a1) + a2) + x6) 360 := vp_of (by first | omega | ((try simp only [Int32.lt_iff_toInt_lt, Int32.le_iff_toInt_le, ← Int32.toInt_inj, Int32.toInt_toInt64, tiA, tlA]); omega) | (split <;> omega)) (by first | omega | ((try simp only [Int32.lt_iff_toInt_lt, Int32.le_iff_toInt_le, ← Int32.toInt_inj, Int32.toInt_toInt64, tiA, tlA]); omega) | (split <;> omega))
                            refine ⟨hi87, ?_⟩
                            have hz88 := vlt hi87
                            have hi89 : vp_in x6 60 := vp_of (by first | omega | ((try simp only [Int32.lt_iff_toInt_lt, Int32.le_iff_toInt_le, ← Int32.toInt_inj, Int32.toInt_toInt64, tiA, tlA]); omega) | (split <;> omega)) (by first | omega | ((try simp only [Int32.lt_iff_toInt_lt, Int32.le_iff_toInt_le, ← Int32.toInt_inj, Int32.toInt_toInt64, tiA, tlA]); omega) | (split <;> omega))
                            refine ⟨hi89, ?_⟩
                            have hz90 := vlt hi89
                            intro lg91 em92
                            have hI93 : I9 lg91 it66 := by rw [em92]; exact i9_l hI63 (by decide) (by decide) (by decide)
                            have hK94 : Kd (fun j => j = 520 ∨ j = 521) (fun k => False) lg0 it0 lg91 it66 := by rw [em92]; exact kd_lr (by decide) (by first | decide | (dsimp only; decide) | omega | (dsimp only; omega)) hK64
                            try have f95 : ((x6 + 1) : Int32).toInt = (x6).toInt + 1 := ad32 (a := (x6).toInt) (b := 1) (rfl) (ti_1) (by omega) (by omega)
                            exact ih102 ((x6 + 1)) _ _ hI93 hK94 ⟨by omega, by omega, MVi_s (by assumption) hv102_2 hv102_3 (by omega) (by omega) (by omega) (by omega) (by omega), MVi_r (by assumption) hv102_3⟩ (by omega)
                      have t96 := ti_0
                      exact ⟨_, lp102 ((61 - ((0 : Int32)).toInt).toNat + 1) ((0 : Int32)) _ _ hI hKr ⟨by omega, by omega, MVi_0 ti_0, rfl⟩ (Nat.lt_succ_self _)⟩
                    · try simp only [Int32.lt_iff_toInt_lt, Int32.le_iff_toInt_le, ← Int32.toInt_inj, Int32.toInt_toInt64, tiA, tlA] at c93
                      subst hp
                      exact ⟨⟨hI, hKr⟩, ⟨by unfold shiftA; first | (rw [if_pos (by omega)]) | (rw [if_neg (by omega), if_pos (by omega)]) | (rw [if_neg (by omega), if_neg (by omega), if_pos (by omega)]) | (rw [if_neg (by omega), if_neg (by omega), if_neg (by omega), if_pos (by omega)]) | (rw [if_neg (by omega), if_neg (by omega), if_neg (by omega), if_neg (by omega)]) | (rw [if_neg (by omega), if_neg (by omega), if_neg (by omega)]), by first | exact SC_0 (by decide) | exact SC_9 hv139_3 (by omega) (by omega) (by omega) (by omega) (by omega) (by omega)⟩⟩
          · try simp only [Int32.lt_iff_toInt_lt, Int32.le_iff_toInt_le, ← Int32.toInt_inj, Int32.toInt_toInt64, tiA, tlA] at c49
            subst hp
            exact ⟨⟨hI, hKr⟩, ⟨by unfold shiftA; first | (rw [if_pos (by omega)]) | (rw [if_neg (by omega), if_pos (by omega)]) | (rw [if_neg (by omega), if_neg (by omega), if_pos (by omega)]) | (rw [if_neg (by omega), if_neg (by omega), if_neg (by omega), if_pos (by omega)]) | (rw [if_neg (by omega), if_neg (by omega), if_neg (by omega), if_neg (by omega)]) | (rw [if_neg (by omega), if_neg (by omega), if_neg (by omega)]), by first | exact SC_0 (by decide) | exact SC_9 hv139_3 (by omega) (by omega) (by omega) (by omega) (by omega) (by omega)⟩⟩
        · try simp only [Int32.lt_iff_toInt_lt, Int32.le_iff_toInt_le, ← Int32.toInt_inj, Int32.toInt_toInt64, tiA, tlA] at c31
          subst hp
          exact ⟨⟨hI, hKr⟩, ⟨by unfold shiftA; first | (rw [if_pos (by omega)]) | (rw [if_neg (by omega), if_pos (by omega)]) | (rw [if_neg (by omega), if_neg (by omega), if_pos (by omega)]) | (rw [if_neg (by omega), if_neg (by omega), if_neg (by omega), if_pos (by omega)]) | (rw [if_neg (by omega), if_neg (by omega), if_neg (by omega), if_neg (by omega)]) | (rw [if_neg (by omega), if_neg (by omega), if_neg (by omega)]), by first | exact SC_0 (by decide) | exact SC_9 hv139_3 (by omega) (by omega) (by omega) (by omega) (by omega) (by omega)⟩⟩
    · try simp only [Int32.lt_iff_toInt_lt, Int32.le_iff_toInt_le, ← Int32.toInt_inj, Int32.toInt_toInt64, tiA, tlA] at c11
      subst hp
      exact ⟨⟨hI, hKr⟩, ⟨by unfold shiftA; first | (rw [if_pos (by omega)]) | (rw [if_neg (by omega), if_pos (by omega)]) | (rw [if_neg (by omega), if_neg (by omega), if_pos (by omega)]) | (rw [if_neg (by omega), if_neg (by omega), if_neg (by omega), if_pos (by omega)]) | (rw [if_neg (by omega), if_neg (by omega), if_neg (by omega), if_neg (by omega)]) | (rw [if_neg (by omega), if_neg (by omega), if_neg (by omega)]), by first | exact SC_0 (by decide) | exact SC_9 hv139_3 (by omega) (by omega) (by omega) (by omega) (by omega) (by omega)⟩⟩
