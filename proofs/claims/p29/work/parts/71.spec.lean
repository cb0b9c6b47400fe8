/-! rails, strikes, ALL: what both sides work -/
abbrev Rlv : Type := Nat × (Nat → Int32) × (Nat → QQ) × (Nat → QQ) × Int32 × Int32 × Int32
abbrev rN (V : Rlv) : Nat := V.1
abbrev rM (V : Rlv) : Nat → Int32 := V.2.1
abbrev rP (V : Rlv) : Nat → QQ := V.2.2.1
abbrev rS (V : Rlv) : Nat → QQ := V.2.2.2.1
abbrev rE (V : Rlv) : Int32 := V.2.2.2.2.1
abbrev rA (V : Rlv) : Int32 := V.2.2.2.2.2.1
abbrev rB (V : Rlv) : Int32 := V.2.2.2.2.2.2
def gap (V : Rlv) (i : Nat) : Option (Option QQ) :=
  if i = 0 then (if rA V = -1 ∨ ¬ (rS V 0).1 < 0 then none else some (oB (some (rP V 0)) (oL (some (0, 1)) (some (rS V 0)))))
  else if i = rN V then (if rB V = -1 ∨ ¬ 0 < (rS V (i - 1)).1 then none else some (oB (oL (some (100, 1)) (some (rP V (i - 1)))) (some (rS V (i - 1)))))
  else match oL (some (rS V (i - 1))) (some (rS V i)) with
    | none => some none
    | some c => if 0 < c.1 then some (oB (oL (some (rP V i)) (some (rP V (i - 1)))) (some c)) else none
abbrev Bs : Type := Option (Option (Nat × QQ))
def nsc (Z : Bs) (k : Nat) (g : Option (Option QQ)) : Bs :=
  match Z with
  | none => none
  | some b => match g with
    | none => some b
    | some none => none
    | some (some d) => match b with
      | none => some (some (k, d))
      | some l => match oL (some d) (some l.2) with
        | none => none
        | some r => if r.1 < 0 then some (some (k, d)) else some (some l)
def scan (V : Rlv) : Nat → Bs
  | 0 => some none
  | k + 1 => nsc (scan V k) k (gap V k)
def nxt (V : Rlv) : Bs := if rN V = 0 then some none else scan V (rN V + 1)
def cw (V : Rlv) (w : Nat) : Int := if w = rN V then 9 else w
def mvP (V : Rlv) (d : QQ) (i : Nat) : Option QQ := oP (some (rP V i)) (oT (some (rS V i)) (some d))
def qF (q : Int32) : Option QQ := some (quU q, quD q)
def mF (m : Int32) : Option QQ := some (m.toInt64, 1)
def tnS (s : QQ) (q : Int32) : Option QQ := oL (some (0, 1)) (oT (some s) (qF q))
def pC (s t : QQ) (m n : Int32) : Option QQ := oB (oP (oT (some s) (mF m)) (oT (some t) (mF n))) (mF (m + n))
def pR (s t : QQ) (e : Int32) : Option QQ := oT (oL (some s) (some t)) (qF e)
def pL1 (s t : QQ) (m n e : Int32) : Option QQ := oL (pC s t m n) (oB (oT (pR s t e) (mF n)) (mF (m + n)))
def pL2 (s t : QQ) (m n e : Int32) : Option QQ := oP (pC s t m n) (oB (oT (pR s t e) (mF m)) (mF (m + n)))
def nsp (V : Rlv) (w j : Nat) : Option QQ :=
  if w = 0 then (if j = 0 then tnS (rS V 0) (rA V) else some (rS V j))
  else if w = rN V then (if j = w - 1 then tnS (rS V (w - 1)) (rB V) else some (rS V j))
  else if j = w - 1 then pL1 (rS V (w - 1)) (rS V w) (rM V (w - 1)) (rM V w) (rE V)
  else if j = w then pL2 (rS V (w - 1)) (rS V w) (rM V (w - 1)) (rM V w) (rE V)
  else some (rS V j)
def qg (X : Option QQ) : QQ := X.getD (0, 1)
/-- each defined below n -/
def alls (n : Nat) (f : Nat → Option QQ) : Prop := ∀ i : Nat, i < n → (f i).isSome = true
def cutF (n : Nat) (f : Nat → Option QQ) : Nat → QQ := fun i => if i < n then qg (f i) else (0, 1)
noncomputable def stpd (V : Rlv) (T : QQ) (w : Nat) (d : QQ) : Option (QQ × Rlv) :=
  match oP (some T) (some d) with
  | none => none
  | some T2 => @ite _ (alls (rN V) (mvP V d) ∧ alls (rN V) (nsp V w)) (Classical.propDecidable _) (some (T2, (rN V, rM V, cutF (rN V) (mvP V d), cutF (rN V) (nsp V w), rE V, rA V, rB V))) none
theorem stp_y {V : Rlv} {T T2 : QQ} {w : Nat} {d : QQ} (h : oP (some T) (some d) = some T2) (h2 : alls (rN V) (mvP V d)) (h3 : alls (rN V) (nsp V w)) : stpd V T w d = some (T2, (rN V, rM V, cutF (rN V) (mvP V d), cutF (rN V) (nsp V w), rE V, rA V, rB V)) := by
  unfold stpd
  rw [h]
  exact if_pos ⟨h2, h3⟩
theorem stp_n {V : Rlv} {T : QQ} {w : Nat} {d : QQ} (h : oP (some T) (some d) = none ∨ (∃ i, i < rN V ∧ mvP V d i = none) ∨ (∃ i, i < rN V ∧ nsp V w i = none)) : stpd V T w d = none := by
  unfold stpd
  split
  · rfl
  · rename_i e
    rcases h with h | ⟨i, hi, h⟩ | ⟨i, hi, h⟩
    · rw [h] at e; cases e
    · exact if_neg (fun q => by have := q.1 i hi; rw [h] at this; cases this)
    · exact if_neg (fun q => by have := q.2 i hi; rw [h] at this; cases this)
/-- going on 1, ended 0, OVER 2; TIME and rail behind so many strikes (fewer, if it ended) -/
noncomputable def runA (V : Rlv) : Nat → Int × QQ × Rlv
  | 0 => (1, (0, 1), V)
  | k + 1 => if (runA V k).1 = 1 then
      (match nxt (runA V k).2.2 with
      | none => (2, (runA V k).2)
      | some none => (0, (runA V k).2)
      | some (some l) => match stpd (runA V k).2.2 (runA V k).2.1 l.1 l.2 with
        | none => (2, (runA V k).2)
        | some r => (1, r))
    else runA V k
noncomputable def whr (V : Rlv) (k : Nat) : Int := match nxt (runA V k).2.2 with | some (some l) => cw (runA V k).2.2 l.1 | _ => 0
noncomputable def cnt (V : Rlv) : Nat → Nat
  | 0 => 0
  | k + 1 => if (runA V (k + 1)).1 = 1 then k + 1 else cnt V k
theorem run_s {V : Rlv} {k : Nat} (h : ¬ (runA V k).1 = 1) : runA V (k + 1) = runA V k := by rw [runA, if_neg h]
theorem run_e {V : Rlv} {k : Nat} (h : (runA V k).1 = 1) (h2 : nxt (runA V k).2.2 = some none) : runA V (k + 1) = (0, (runA V k).2) := by rw [runA, if_pos h, h2]
theorem run_o {V : Rlv} {k : Nat} (h : (runA V k).1 = 1) (h2 : nxt (runA V k).2.2 = none) : runA V (k + 1) = (2, (runA V k).2) := by rw [runA, if_pos h, h2]
theorem run_d {V : Rlv} {k : Nat} {l : Nat × QQ} (h : (runA V k).1 = 1) (h2 : nxt (runA V k).2.2 = some (some l)) (h3 : stpd (runA V k).2.2 (runA V k).2.1 l.1 l.2 = none) : runA V (k + 1) = (2, (runA V k).2) := by
  rw [runA, if_pos h, h2]
  show (match stpd (runA V k).2.2 (runA V k).2.1 l.1 l.2 with | none => _ | some r => _) = _
  rw [h3]
theorem run_g {V : Rlv} {k : Nat} {l : Nat × QQ} {r : QQ × Rlv} (h : (runA V k).1 = 1) (h2 : nxt (runA V k).2.2 = some (some l)) (h3 : stpd (runA V k).2.2 (runA V k).2.1 l.1 l.2 = some r) : runA V (k + 1) = (1, r) := by
  rw [runA, if_pos h, h2]
  show (match stpd (runA V k).2.2 (runA V k).2.1 l.1 l.2 with | none => _ | some r => _) = _
  rw [h3]
theorem run_1 {V : Rlv} {k : Nat} (h : (runA V (k + 1)).1 = 1) : (runA V k).1 = 1 := by
  by_cases c : (runA V k).1 = 1
  · exact c
  · rw [run_s c] at h; exact h
theorem run_st {V : Rlv} {k : Nat} (h : ¬ (runA V k).1 = 1) : ∀ m, runA V (k + m) = runA V k
  | 0 => rfl
  | m + 1 => by
    have e := run_st h m
    show runA V ((k + m) + 1) = _
    rw [run_s (by rw [e]; exact h), e]
theorem run_le {V : Rlv} {k m : Nat} (h : ¬ (runA V k).1 = 1) (hm : k ≤ m) : runA V m = runA V k := by
  obtain ⟨d, rfl⟩ : ∃ d, m = k + d := ⟨m - k, by omega⟩
  exact run_st h d
theorem run_up {V : Rlv} {k m : Nat} (h : (runA V m).1 = 1) (hm : k ≤ m) : (runA V k).1 = 1 := by
  by_cases c : (runA V k).1 = 1
  · exact c
  · rw [run_le c hm] at h; exact h
theorem cnt_1 {V : Rlv} : ∀ {k : Nat}, (runA V k).1 = 1 → cnt V k = k
  | 0, _ => rfl
  | k + 1, h => by rw [cnt, if_pos h]
theorem cnt_le (V : Rlv) : ∀ k, cnt V k ≤ k
  | 0 => Nat.le_refl 0
  | k + 1 => by
    rw [cnt]
    split
    · exact Nat.le_refl _
    · exact Nat.le_succ_of_le (cnt_le V k)
theorem cnt_s {V : Rlv} {k : Nat} (h : (runA V k).1 = 1) (h2 : ¬ (runA V (k + 1)).1 = 1) : ∀ m, cnt V (k + 1 + m) = k
  | 0 => by
    show cnt V (k + 1) = k
    rw [cnt, if_neg h2, cnt_1 h]
  | m + 1 => by
    show cnt V ((k + 1 + m) + 1) = k
    rw [cnt, if_neg (by rw [show k + 1 + m + 1 = k + 1 + (m + 1) by omega, run_st h2]; exact h2), cnt_s h h2 m]
theorem cnt_st {V : Rlv} {k m : Nat} (h : (runA V k).1 = 1) (h2 : ¬ (runA V (k + 1)).1 = 1) (hm : k < m) : cnt V m = k := by
  obtain ⟨d, rfl⟩ : ∃ d, m = k + 1 + d := ⟨m - (k + 1), by omega⟩
  exact cnt_s h h2 d
/-- so many strikes: fewer asked, the same ones -/
theorem cnt_min (V : Rlv) : ∀ m, (runA V (cnt V m)).1 = 1 ∧ (runA V m).2 = (runA V (cnt V m)).2 ∧ (cnt V m = m ∨ ¬ (runA V (cnt V m + 1)).1 = 1)
  | 0 => ⟨rfl, rfl, Or.inl rfl⟩
  | m + 1 => by
    obtain ⟨a, b, c⟩ := cnt_min V m
    by_cases h : (runA V (m + 1)).1 = 1
    · rw [cnt_1 h]; exact ⟨h, rfl, Or.inl rfl⟩
    · have e : cnt V (m + 1) = cnt V m := by rw [cnt, if_neg h]
      rw [e]
      refine ⟨a, ?_, Or.inr ?_⟩
      · rw [← b]
        by_cases h1 : (runA V m).1 = 1
        · rw [runA, if_pos h1]
          split
          · rfl
          · rfl
          · rename_i l hl
            split
            · rfl
            · rename_i r hr
              exact absurd (by rw [run_g h1 hl hr]) h
        · rw [run_s h1]
      · rcases c with c | c
        · rw [c]; exact h
        · exact c
theorem cnt_mn {V : Rlv} {k m : Nat} (h : k ≤ m) : cnt V k = min k (cnt V m) := by
  obtain ⟨a, _, c⟩ := cnt_min V m
  by_cases q : k ≤ cnt V m
  · rw [cnt_1 (run_up a q)]; omega
  · rcases c with c | c
    · omega
    · rw [cnt_st a c (by omega)]; omega
/-- what does not change while strikes are done -/
theorem stp_k {V : Rlv} {T : QQ} {w : Nat} {d : QQ} {r : QQ × Rlv} (h : stpd V T w d = some r) : rN r.2 = rN V ∧ rM r.2 = rM V ∧ rE r.2 = rE V ∧ rA r.2 = rA V ∧ rB r.2 = rB V := by
  unfold stpd at h
  split at h
  · cases h
  · split at h
    · injection h with h
      subst h
      exact ⟨rfl, rfl, rfl, rfl, rfl⟩
    · cases h
theorem run_k (V : Rlv) : ∀ k, rN (runA V k).2.2 = rN V ∧ rM (runA V k).2.2 = rM V ∧ rE (runA V k).2.2 = rE V ∧ rA (runA V k).2.2 = rA V ∧ rB (runA V k).2.2 = rB V
  | 0 => ⟨rfl, rfl, rfl, rfl, rfl⟩
  | k + 1 => by
    have ih := run_k V k
    by_cases h : (runA V k).1 = 1
    · rw [runA, if_pos h]
      split
      · exact ih
      · exact ih
      · split
        · exact ih
        · rename_i r hr
          obtain ⟨a, b, c, d, e⟩ := stp_k hr
          exact ⟨a.trans ih.1, b.trans ih.2.1, c.trans ih.2.2.1, d.trans ih.2.2.2.1, e.trans ih.2.2.2.2⟩
    · rw [run_s h]; exact ih
/-! fractions above 0 below the line -/
theorem pos_t {X Y : Option QQ} (hx : PosF X) (hy : PosF Y) : PosF (oT X Y) := by
  cases X with
  | none => intro q h; cases h
  | some x => cases Y with
    | none => intro q h; cases h
    | some y => exact (ag_t (hx x rfl) (hy y rfl)).2
theorem pos_p {X Y : Option QQ} (hx : PosF X) (hy : PosF Y) : PosF (oP X Y) := by
  cases X with
  | none => intro q h; cases h
  | some x => cases Y with
    | none => intro q h; cases h
    | some y => exact (ag_p (hx x rfl) (hy y rfl)).2
theorem pos_l {X Y : Option QQ} (hx : PosF X) (hy : PosF Y) : PosF (oL X Y) := by
  cases X with
  | none => intro q h; cases h
  | some x => cases Y with
    | none => intro q h; cases h
    | some y => exact (ag_l (hx x rfl) (hy y rfl)).2
theorem pos_b {X Y : Option QQ} (hx : PosF X) (hy : ∀ q, Y = some q → 0 < q.1.toInt) : PosF (oB X Y) := by
  cases X with
  | none => intro q h; cases h
  | some x => cases Y with
    | none => intro q h; cases h
    | some y => exact (ag_b (hx x rfl) (hy y rfl)).2
theorem pos_s {q : QQ} (h : 0 < q.2.toInt) : PosF (some q) := fun r hr => by cases hr; exact h
theorem pos_q (q : Int32) : PosF (qF q) := pos_s (by
  show 0 < (quD q).toInt
  unfold quD
  split
  · decide
  · split
    · decide
    · split <;> decide)
theorem pos_m (m : Int32) : PosF (mF m) := pos_s (show 0 < (1 : Int64).toInt by decide)
theorem i64_pos {m : Int32} (h : 0 < m.toInt) : 0 < m.toInt64.toInt := by rw [Int32.toInt_toInt64]; exact h
theorem mF_pos {m : Int32} (h : 0 < m.toInt) : ∀ q, mF m = some q → 0 < q.1.toInt := fun q hq => by cases hq; exact i64_pos h
/-- a rail that can be: 0 to 6 bumpers, masses, fractions above 0 below the line -/
def VO (V : Rlv) : Prop := rN V ≤ 6 ∧ (∀ i, 0 < (rP V i).2.toInt ∧ 0 < (rS V i).2.toInt) ∧ (∀ i, i < rN V → 1 ≤ (rM V i).toInt ∧ (rM V i).toInt ≤ 9) ∧ (∀ i, ¬ i < rN V → rM V i = 0 ∧ rP V i = (0, 1) ∧ rS V i = (0, 1)) ∧ (0 ≤ (rE V).toInt ∧ (rE V).toInt ≤ 4) ∧ (-1 ≤ (rA V).toInt ∧ (rA V).toInt ≤ 4) ∧ (-1 ≤ (rB V).toInt ∧ (rB V).toInt ≤ 4)
theorem pos_tn {s : QQ} {q : Int32} (h : 0 < s.2.toInt) : PosF (tnS s q) := pos_l (pos_s (by decide)) (pos_t (pos_s h) (pos_q q))
theorem pos_c {s t : QQ} {m n : Int32} (hs : 0 < s.2.toInt) (ht : 0 < t.2.toInt) (h : 0 < (m + n).toInt) : PosF (pC s t m n) := pos_b (pos_p (pos_t (pos_s hs) (pos_m m)) (pos_t (pos_s ht) (pos_m n))) (mF_pos h)
theorem pos_r {s t : QQ} {e : Int32} (hs : 0 < s.2.toInt) (ht : 0 < t.2.toInt) : PosF (pR s t e) := pos_t (pos_l (pos_s hs) (pos_s ht)) (pos_q e)
theorem pos_l1 {s t : QQ} {m n e : Int32} (hs : 0 < s.2.toInt) (ht : 0 < t.2.toInt) (h : 0 < (m + n).toInt) : PosF (pL1 s t m n e) := pos_l (pos_c hs ht h) (pos_b (pos_t (pos_r hs ht) (pos_m n)) (mF_pos h))
theorem pos_l2 {s t : QQ} {m n e : Int32} (hs : 0 < s.2.toInt) (ht : 0 < t.2.toInt) (h : 0 < (m + n).toInt) : PosF (pL2 s t m n e) := pos_p (pos_c hs ht h) (pos_b (pos_t (pos_r hs ht) (pos_m m)) (mF_pos h))
theorem qg_pos {X : Option QQ} (h : PosF X) : 0 < (qg X).2.toInt := by
  cases X with
  | none => decide
  | some x => exact h x rfl
theorem ms_pos {m n : Int32} (h1 : 1 ≤ m.toInt ∧ m.toInt ≤ 9) (h2 : 1 ≤ n.toInt ∧ n.toInt ≤ 9) : 0 < (m + n).toInt := by
  rw [ad32 (x := m) (y := n) rfl rfl (by omega) (by omega)]
  omega
theorem pos_nsp {V : Rlv} {w : Nat} (h : VO V) (hw : w ≤ rN V) (j : Nat) : PosF (nsp V w j) := by
  unfold nsp
  split
  · split
    · exact pos_tn (h.2.1 0).2
    · exact pos_s (h.2.1 j).2
  · split
    · split
      · exact pos_tn (h.2.1 _).2
      · exact pos_s (h.2.1 j).2
    · have hm := ms_pos (h.2.2.1 (w - 1) (by omega)) (h.2.2.1 w (by omega))
      split
      · exact pos_l1 (h.2.1 _).2 (h.2.1 _).2 hm
      · split
        · exact pos_l2 (h.2.1 _).2 (h.2.1 _).2 hm
        · exact pos_s (h.2.1 j).2
theorem stp_vo {V : Rlv} {T : QQ} {w : Nat} {d : QQ} {r : QQ × Rlv} (hV : VO V) (hT : 0 < T.2.toInt) (hd : 0 < d.2.toInt) (hw : w ≤ rN V) (h : stpd V T w d = some r) : VO r.2 ∧ 0 < r.1.2.toInt := by
  unfold stpd at h
  split at h
  · cases h
  · rename_i T2 e
    split at h
    · injection h with h
      subst h
      refine ⟨⟨hV.1, fun i => ⟨?_, ?_⟩, hV.2.2.1, fun i hi => ⟨(hV.2.2.2.1 i hi).1, if_neg hi, if_neg hi⟩, hV.2.2.2.2⟩, ?_⟩
      · show 0 < (cutF (rN V) (mvP V d) i).2.toInt
        unfold cutF
        split
        · exact qg_pos (pos_p (pos_s (hV.2.1 i).1) (pos_t (pos_s (hV.2.1 i).2) (pos_s hd)))
        · decide
      · show 0 < (cutF (rN V) (nsp V w) i).2.toInt
        unfold cutF
        split
        · exact qg_pos (pos_nsp hV hw i)
        · decide
      · exact pos_p (pos_s hT) (pos_s hd) _ e
    · cases h
theorem neg64 {x : Int64} : x < 0 ↔ x.toInt < 0 := Int64.lt_iff_toInt_lt
theorem pos64 {x : Int64} : 0 < x ↔ 0 < x.toInt := Int64.lt_iff_toInt_lt
/-- 0 less a fraction below 0 is above 0 -/
theorem less0 {s : QQ} (hs : 0 < s.2.toInt) (h : s.1 < 0) : ∀ q, oL (some (0, 1)) (some s) = some q → 0 < q.1.toInt := by
  intro q hq
  have h1 := s.1.le_toInt
  have h2 := s.1.toInt_lt
  have h3 := s.2.toInt_lt
  rw [neg64] at h
  have g := ag_l (a := 0) (b := 1) (c := s.1) (d := s.2) (by decide) hs
  have e1 : (0 : Int64) * s.2 - s.1 * 1 = -s.1 := by rw [Int64.zero_mul, Int64.mul_one, Int64.zero_sub]
  have e2 : (1 : Int64) * s.2 = s.2 := Int64.one_mul _
  have g1 := g.1
  unfold gLess at g1
  rw [e1, e2] at g1
  have hq2 : abF (gMk (-s.1) s.2 (oro (oro (oro (oro 0 (ovm 0 s.2)) (ovm s.1 1)) (ovd (0 * s.2) (s.1 * 1))) (ovm 1 s.2))) = some q := g1.trans hq
  generalize ho : oro (oro (oro (oro 0 (ovm 0 s.2)) (ovm s.1 1)) (ovd (0 * s.2) (s.1 * 1))) (ovm 1 s.2) = o at hq2
  by_cases c : o = 0
  · subst c
    have hov := (oro_f (oro_f ho).1).2
    rw [Int64.zero_mul, Int64.mul_one] at hov
    -- no OVER: it isn't the least long
    have hm : ¬ s.1.toInt = -9223372036854775808 := by
      intro z
      have z2 : s.1 = MNL := Int64.toInt_inj.mp (z.trans (by decide))
      rw [z2] at hov
      exact absurd hov (by decide)
    have hn : (-s.1).toInt = -s.1.toInt := by rw [Int64.toInt_neg]; exact bmL (by omega) (by omega)
    unfold abF gMk lowv at hq2
    rw [if_pos rfl, if_pos rfl] at hq2
    injection hq2 with hq2
    subst hq2
    obtain ⟨e, g1, g2⟩ := sgn_gca (h := -s.1) hs
    have hz : ¬ s.2 = 0 := fun z => by rw [z] at hs; exact absurd hs (by decide)
    exact div_pos64 (by omega) g1 (by rw [gca_abs]; exact Nat.gcd_dvd_left _ _)
  · rw [abF_1 c] at hq2; cases hq2
theorem gap_pos {V : Rlv} {i : Nat} {X : Option QQ} (hV : VO V) (h : gap V i = some X) : PosF X := by
  unfold gap at h
  split at h
  · split at h
    · cases h
    · rename_i c
      injection h with h
      subst h
      exact pos_b (pos_s (hV.2.1 0).1) (less0 (hV.2.1 0).2 (Classical.byContradiction fun q => c (Or.inr q)))
  · split at h
    · split at h
      · cases h
      · rename_i c
        injection h with h
        subst h
        refine pos_b (pos_l (pos_s (by decide)) (pos_s (hV.2.1 _).1)) (fun q hq => ?_)
        cases hq
        exact pos64.mp (Classical.byContradiction fun q => c (Or.inr q))
    · split at h
      · injection h with h
        subst h
        intro q hq; cases hq
      · split at h
        · rename_i c1 c2
          injection h with h
          subst h
          refine pos_b (pos_l (pos_s (hV.2.1 _).1) (pos_s (hV.2.1 _).1)) (fun q hq => ?_)
          cases hq
          exact pos64.mp c2
        · cases h
theorem nsc_pos {V : Rlv} {Z : Bs} {k : Nat} {l : Nat × QQ} (hV : VO V) (hZ : ∀ l, Z = some (some l) → l.1 < k ∧ 0 < l.2.2.toInt) (h : nsc Z k (gap V k) = some (some l)) : l.1 < k + 1 ∧ 0 < l.2.2.toInt := by
  unfold nsc at h
  split at h
  · cases h
  · rename_i b
    split at h
    · injection h with h
      subst h
      have := hZ l rfl
      exact ⟨by omega, this.2⟩
    · cases h
    · rename_i d hg
      have hp := gap_pos hV hg d rfl
      split at h
      · injection h with h
        injection h with h
        subst h
        exact ⟨Nat.lt_succ_self _, hp⟩
      · rename_i l0
        have h0 := hZ l0 rfl
        split at h
        · cases h
        · split at h
          · injection h with h
            injection h with h
            subst h
            exact ⟨Nat.lt_succ_self _, hp⟩
          · injection h with h
            injection h with h
            subst h
            exact ⟨by omega, h0.2⟩
theorem scan_pos {V : Rlv} (hV : VO V) : ∀ (k : Nat) (l : Nat × QQ), scan V k = some (some l) → l.1 < k ∧ 0 < l.2.2.toInt
  | 0, l, h => by cases h
  | k + 1, l, h => nsc_pos hV (scan_pos hV k) h
theorem nxt_pos {V : Rlv} {l : Nat × QQ} (hV : VO V) (h : nxt V = some (some l)) : l.1 ≤ rN V ∧ 0 < l.2.2.toInt ∧ 1 ≤ rN V := by
  unfold nxt at h
  split at h
  · cases h
  · have := scan_pos hV _ l h
    exact ⟨by omega, this.2, by omega⟩
theorem run_vo {V : Rlv} (hV : VO V) : ∀ k, VO (runA V k).2.2 ∧ 0 < (runA V k).2.1.2.toInt
  | 0 => ⟨hV, show 0 < (1 : Int64).toInt by decide⟩
  | k + 1 => by
    have ih := run_vo hV k
    by_cases h : (runA V k).1 = 1
    · rw [runA, if_pos h]
      split
      · exact ih
      · exact ih
      · rename_i l hl
        split
        · exact ih
        · rename_i r hr
          have hp := nxt_pos ih.1 hl
          exact stp_vo ih.1 ih.2 hp.2.1 hp.1 hr
    · rw [run_s h]; exact ih
theorem run_c (V : Rlv) : ∀ k, (runA V k).1 = 0 ∨ (runA V k).1 = 1 ∨ (runA V k).1 = 2
  | 0 => Or.inr (Or.inl rfl)
  | k + 1 => by
    by_cases h : (runA V k).1 = 1
    · rw [runA, if_pos h]
      split
      · exact Or.inr (Or.inr rfl)
      · exact Or.inl rfl
      · split
        · exact Or.inr (Or.inr rfl)
        · exact Or.inr (Or.inl rfl)
    · rw [run_s h]; exact run_c V k
