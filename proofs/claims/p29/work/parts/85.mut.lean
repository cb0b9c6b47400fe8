/-! what the calls do to the rail -/
def setE (V : Rlv) (q : Int32) : Rlv := (rN V, rM V, rP V, rS V, q, rA V, rB V)
def setA (V : Rlv) (q : Int32) : Rlv := (rN V, rM V, rP V, rS V, rE V, q, rB V)
def setB (V : Rlv) (q : Int32) : Rlv := (rN V, rM V, rP V, rS V, rE V, rA V, q)
def setM (V : Rlv) (i : Nat) (m : Int32) : Rlv := (rN V, (fun j => if j = i then m else rM V j), rP V, rS V, rE V, rA V, rB V)
def setS (V : Rlv) (i : Nat) (s : QQ) : Rlv := (rN V, rM V, rP V, (fun j => if j = i then s else rS V j), rE V, rA V, rB V)
def addB (V : Rlv) (p s : QQ) (m : Int32) : Rlv := (rN V + 1, (fun j => if j = rN V then m else rM V j), (fun j => if j = rN V then p else rP V j), (fun j => if j = rN V then s else rS V j), rE V, rA V, rB V)
/-! the first side's memory -/
theorem rv_setE {lg : LGt} {it : ITt} {r : Nat} {V : Rlv} {q : Int32} (h : RV lg it r V) : RV lg (u2 it r 4 q) r (setE V q) := by
  obtain ⟨e, ok, h6⟩ := h
  have e0 : u2 it r 4 q r 0 = it r 0 := u2_ne (by decide)
  have rr (j : Nat) (hj : j ≠ r) : u2 it r 4 q j = it j := u2_row hj
  refine ⟨?_, fun i hi => ?_, by rw [e0]; exact h6⟩
  · subst e
    unfold vw8 setE
    rw [e0, rr (r + 1) (by omega), rr (r + 16) (by omega), u2_eq]
  · rw [e0] at hi
    rw [rr _ (by omega), rr _ (by omega)]
    exact ok i hi
theorem rv_setA {lg : LGt} {it : ITt} {r : Nat} {V : Rlv} {q : Int32} (h : RV lg it r V) : RV lg (u2 it (r + 16) 0 q) r (setA V q) := by
  obtain ⟨e, ok, h6⟩ := h
  have rr (j : Nat) (hj : j ≠ r + 16) : u2 it (r + 16) 0 q j = it j := u2_row hj
  refine ⟨?_, fun i hi => ?_, by rw [rr r (by omega)]; exact h6⟩
  · subst e
    unfold vw8 setA
    rw [rr r (by omega), rr (r + 1) (by omega), u2_eq, u2_ne (by decide)]
  · rw [rr r (by omega)] at hi
    rw [rr _ (by omega), rr _ (by omega)]
    exact ok i hi
theorem rv_setB {lg : LGt} {it : ITt} {r : Nat} {V : Rlv} {q : Int32} (h : RV lg it r V) : RV lg (u2 it (r + 16) 1 q) r (setB V q) := by
  obtain ⟨e, ok, h6⟩ := h
  have rr (j : Nat) (hj : j ≠ r + 16) : u2 it (r + 16) 1 q j = it j := u2_row hj
  refine ⟨?_, fun i hi => ?_, by rw [rr r (by omega)]; exact h6⟩
  · subst e
    unfold vw8 setB
    rw [rr r (by omega), rr (r + 1) (by omega), u2_eq, u2_ne (by decide)]
  · rw [rr r (by omega)] at hi
    rw [rr _ (by omega), rr _ (by omega)]
    exact ok i hi
theorem rv_setM {lg : LGt} {it : ITt} {r i : Nat} {V : Rlv} {m : Int32} (h : RV lg it r V) (hi : i < rN V) : RV lg (u2 it (r + 1) i m) r (setM V i m) := by
  obtain ⟨e, ok, h6⟩ := h
  have rr (j : Nat) (hj : j ≠ r + 1) : u2 it (r + 1) i m j = it j := u2_row hj
  refine ⟨?_, fun i hi => ?_, by rw [rr r (by omega)]; exact h6⟩
  · subst e
    unfold vw8 setM
    rw [rr r (by omega), rr (r + 16) (by omega)]
    have eM : (fun j => if j < (it r 0).toNatClampNeg then u2 it (r + 1) i m (r + 1) j else 0) = (fun j => if j = i then m else if j < (it r 0).toNatClampNeg then it (r + 1) j else 0) := by
      funext j
      by_cases z : j = i
      · subst z; rw [if_pos (show j < (it r 0).toNatClampNeg from hi), if_pos rfl, u2_eq]
      · rw [if_neg z, u2_ne z]
    rw [eM]
  · rw [rr r (by omega)] at hi
    rw [rr _ (by omega), rr _ (by omega)]
    exact ok i hi
theorem rv_setS {lg : LGt} {it : ITt} {r i : Nat} {V : Rlv} {a b : Int64} (h : RV lg it r V) (hi : i < rN V) : RV (sL lg (r + 5 + 2 * i) a b) (sI it (r + 5 + 2 * i) 2 0) r (setS V i (a, b)) := by
  obtain ⟨e, ok, h6⟩ := h
  have rr (j : Nat) (hj : j ≠ r + 5 + 2 * i) : sI it (r + 5 + 2 * i) 2 0 j = it j := u2_row hj
  have rl (j : Nat) (hj : j ≠ r + 5 + 2 * i) : sL lg (r + 5 + 2 * i) a b j = lg j := sL_row hj
  have hi6 : i < (it r 0).toNatClampNeg := by rw [← e] at hi; exact hi
  refine ⟨?_, fun k hk => ?_, by rw [rr r (by omega)]; exact h6⟩
  · subst e
    unfold vw8 setS
    rw [rr r (by omega), rr (r + 1) (by omega), rr (r + 16) (by omega)]
    have eP : (fun j => if j < (it r 0).toNatClampNeg then (sL lg (r + 5 + 2 * i) a b (r + 4 + 2 * j) 0, sL lg (r + 5 + 2 * i) a b (r + 4 + 2 * j) 1) else ((0, 1) : QQ)) = (fun j => if j < (it r 0).toNatClampNeg then (lg (r + 4 + 2 * j) 0, lg (r + 4 + 2 * j) 1) else (0, 1)) := by
      funext j
      rw [rl _ (by omega)]
    have eS : (fun j => if j < (it r 0).toNatClampNeg then (sL lg (r + 5 + 2 * i) a b (r + 5 + 2 * j) 0, sL lg (r + 5 + 2 * i) a b (r + 5 + 2 * j) 1) else ((0, 1) : QQ)) = (fun j => if j = i then (a, b) else if j < (it r 0).toNatClampNeg then (lg (r + 5 + 2 * j) 0, lg (r + 5 + 2 * j) 1) else (0, 1)) := by
      funext j
      by_cases z : j = i
      · subst z; rw [if_pos hi6, if_pos rfl, sL_0, sL_1]
      · rw [if_neg z, rl _ (by omega)]
    rw [eP, eS]
  · rw [rr r (by omega)] at hk
    rw [rr _ (by omega)]
    refine ⟨(ok k hk).1, ?_⟩
    by_cases z : k = i
    · subst z; exact u2_eq
    · rw [rr _ (by omega)]; exact (ok k hk).2
theorem rv_add {lg lg1 lg2 : LGt} {it it1 it2 it3 it4 : ITt} {r : Nat} {n x : Int32} {V : Rlv} {p s : Int64} {m : Int32} (h : RV lg it r V) (hn : it r 0 = n) (hn6 : 0 ≤ n.toInt ∧ n.toInt < 6) (e1 : lg1 = sL lg (r + 4 + 2 * n.toNatClampNeg) p 1) (e2 : it1 = sI it (r + 4 + 2 * n.toNatClampNeg) 2 0) (e3 : it2 = u2 it1 (r + 1) n.toNatClampNeg m) (e4 : lg2 = sL lg1 (r + 5 + 2 * n.toNatClampNeg) s 1) (e5 : it3 = sI it2 (r + 5 + 2 * n.toNatClampNeg) 2 0) (e6 : it4 = u2 it3 r 0 x) (hx : x.toInt = n.toInt + 1) : RV lg2 it4 r (addB V (p, 1) (s, 1) m) := by
  obtain ⟨e, ok, h6⟩ := h
  have k1 := cl32 hn6.1
  have k2 := cl32 (i := x) (by omega)
  have hN : rN V = n.toNatClampNeg := by rw [← e]; show (it r 0).toNatClampNeg = _; rw [hn]
  have x1 : x.toNatClampNeg = n.toNatClampNeg + 1 := by omega
  have i0 : it4 r 0 = x := by rw [e6, u2_eq]
  have ri (j : Nat) (h0 : j ≠ r) (h1 : j ≠ r + 1) (h2 : j ≠ r + 4 + 2 * n.toNatClampNeg) (h3 : j ≠ r + 5 + 2 * n.toNatClampNeg) : it4 j = it j := by rw [e6, u2_row h0, e5]; unfold sI; rw [u2_row h3, e3, u2_row h1, e2]; unfold sI; rw [u2_row h2]
  have i4 : it4 r 4 = it r 4 := by rw [e6, u2_ne (by decide), e5]; unfold sI; rw [u2_row (by omega), e3, u2_row (by omega), e2]; unfold sI; rw [u2_row (by omega)]
  have iM (j : Nat) : it4 (r + 1) j = if j = n.toNatClampNeg then m else it (r + 1) j := by
    rw [e6, u2_row (by omega), e5]
    unfold sI
    rw [u2_row (by omega), e3]
    by_cases z : j = n.toNatClampNeg
    · rw [if_pos z, z, u2_eq]
    · rw [if_neg z, u2_ne z, e2]; unfold sI; rw [u2_row (by omega)]
  have rl (j : Nat) (h2 : j ≠ r + 4 + 2 * n.toNatClampNeg) (h3 : j ≠ r + 5 + 2 * n.toNatClampNeg) : lg2 j = lg j := by rw [e4, sL_row h3, e1, sL_row h2]
  have lP : lg2 (r + 4 + 2 * n.toNatClampNeg) 0 = p ∧ lg2 (r + 4 + 2 * n.toNatClampNeg) 1 = 1 := by rw [e4, sL_row (by omega), e1, sL_0, sL_1]; exact ⟨rfl, rfl⟩
  have lS : lg2 (r + 5 + 2 * n.toNatClampNeg) 0 = s ∧ lg2 (r + 5 + 2 * n.toNatClampNeg) 1 = 1 := by rw [e4, sL_0, sL_1]; exact ⟨rfl, rfl⟩
  have oP2 : it4 (r + 4 + 2 * n.toNatClampNeg) 2 = 0 := by rw [e6, u2_row (by omega), e5]; unfold sI; rw [u2_row (by omega), e3, u2_row (by omega), e2]; exact u2_eq
  have oS2 : it4 (r + 5 + 2 * n.toNatClampNeg) 2 = 0 := by rw [e6, u2_row (by omega), e5]; exact u2_eq
  refine ⟨?_, fun k hk => ?_, by rw [i0]; omega⟩
  · have hV := e.symm
    unfold vw8 at hV ⊢
    unfold addB
    rw [i0, i4, hN, ri (r + 16) (by omega) (by omega) (by omega) (by omega), x1]
    have c1 : rM V = fun j => if j < n.toNatClampNeg then it (r + 1) j else 0 := by rw [hV, hn]
    have c2 : rP V = fun j => if j < n.toNatClampNeg then (lg (r + 4 + 2 * j) 0, lg (r + 4 + 2 * j) 1) else (0, 1) := by rw [hV, hn]
    have c3 : rS V = fun j => if j < n.toNatClampNeg then (lg (r + 5 + 2 * j) 0, lg (r + 5 + 2 * j) 1) else (0, 1) := by rw [hV, hn]
    have c4 : rE V = it r 4 := by rw [hV]
    have c5 : rA V = it (r + 16) 0 := by rw [hV]
    have c6 : rB V = it (r + 16) 1 := by rw [hV]
    rw [c1, c2, c3, c4, c5, c6]
    have eM : (fun j => if j < n.toNatClampNeg + 1 then it4 (r + 1) j else 0) = (fun j => if j = n.toNatClampNeg then m else if j < n.toNatClampNeg then it (r + 1) j else 0) := by
      funext j
      rw [iM]
      by_cases z : j = n.toNatClampNeg
      · rw [if_pos (by omega), if_pos z, if_pos z]
      · rw [if_neg z, if_neg z]
        by_cases y : j < n.toNatClampNeg
        · rw [if_pos (by omega), if_pos y]
        · rw [if_neg (by omega), if_neg y]
    have eP : (fun j => if j < n.toNatClampNeg + 1 then (lg2 (r + 4 + 2 * j) 0, lg2 (r + 4 + 2 * j) 1) else ((0, 1) : QQ)) = (fun j => if j = n.toNatClampNeg then (p, 1) else if j < n.toNatClampNeg then (lg (r + 4 + 2 * j) 0, lg (r + 4 + 2 * j) 1) else (0, 1)) := by
      funext j
      by_cases z : j = n.toNatClampNeg
      · rw [if_pos (by omega), if_pos z, z, lP.1, lP.2]
      · rw [if_neg z]
        by_cases y : j < n.toNatClampNeg
        · rw [if_pos (by omega), if_pos y, rl _ (by omega) (by omega)]
        · rw [if_neg (by omega), if_neg y]
    have eS : (fun j => if j < n.toNatClampNeg + 1 then (lg2 (r + 5 + 2 * j) 0, lg2 (r + 5 + 2 * j) 1) else ((0, 1) : QQ)) = (fun j => if j = n.toNatClampNeg then (s, 1) else if j < n.toNatClampNeg then (lg (r + 5 + 2 * j) 0, lg (r + 5 + 2 * j) 1) else (0, 1)) := by
      funext j
      by_cases z : j = n.toNatClampNeg
      · rw [if_pos (by omega), if_pos z, z, lS.1, lS.2]
      · rw [if_neg z]
        by_cases y : j < n.toNatClampNeg
        · rw [if_pos (by omega), if_pos y, rl _ (by omega) (by omega)]
        · rw [if_neg (by omega), if_neg y]
    rw [eM, eP, eS]
  · rw [i0, x1] at hk
    by_cases z : k = n.toNatClampNeg
    · rw [z]; exact ⟨oP2, oS2⟩
    · rw [ri _ (by omega) (by omega) (by omega) (by omega), ri _ (by omega) (by omega) (by omega) (by omega)]
      exact ok k (by rw [hn]; omega)
/-! the second side's memory -/
theorem w9_e {lg lg' : LGt} {it it' : ITt} (h0 : it' 489 0 = it 489 0 ∧ it' 489 1 = it 489 1 ∧ it' 489 2 = it 489 2 ∧ it' 489 3 = it 489 3) (hm : it' 490 = it 490) (hl : lg' 491 = lg 491 ∧ lg' 492 = lg 492 ∧ lg' 493 = lg 493 ∧ lg' 494 = lg 494) : vw9 lg' it' = vw9 lg it := by
  unfold vw9
  rw [h0.1, h0.2.1, h0.2.2.1, h0.2.2.2, hm, hl.1, hl.2.1, hl.2.2.1, hl.2.2.2]
theorem w9_k {S F : Nat → Prop} {lg lg' : LGt} {it it' : ITt} (hk : Kd S F lg it lg' it') (hs : ∀ j, S j → ¬ (490 ≤ j ∧ j ≤ 494)) (hf : ∀ k, F k → 3 < k) : vw9 lg' it' = vw9 lg it := by
  have r (j : Nat) (h : 490 ≤ j ∧ j ≤ 494) : lg' j = lg j ∧ it' j = it j := hk.1 j (by omega) (fun q => hs j q h)
  have f (k : Nat) (h : k ≤ 3) : it' 489 k = it 489 k := (hk.2 k (fun q => by have := hf k q; omega)).2
  exact w9_e ⟨f 0 (by decide), f 1 (by decide), f 2 (by decide), f 3 (by decide)⟩ (r 490 (by decide)).2 ⟨(r 491 (by decide)).1, (r 492 (by decide)).1, (r 493 (by decide)).1, (r 494 (by decide)).1⟩
theorem w9_8 {S : Nat → Prop} {lg lg' : LGt} {it it' : ITt} (hk : Kc S lg it lg' it') (hs : ∀ j, S j → j < 489) : vw9 lg' it' = vw9 lg it := by
  have r (j : Nat) (h : 489 ≤ j) : lg' j = lg j ∧ it' j = it j := hk j (fun q => by have := hs j q; omega)
  exact w9_e (by rw [(r 489 (by decide)).2]; exact ⟨rfl, rfl, rfl, rfl⟩) (r 490 (by decide)).2 ⟨(r 491 (by decide)).1, (r 492 (by decide)).1, (r 493 (by decide)).1, (r 494 (by decide)).1⟩
theorem w9_setE {lg : LGt} {it : ITt} {q : Int32} : vw9 lg (u2 it 489 1 q) = setE (vw9 lg it) q := by
  unfold vw9 setE
  rw [u2_ne (by decide), u2_eq, u2_ne (by decide), u2_ne (by decide), u2_row (by decide)]
theorem w9_setA {lg : LGt} {it : ITt} {q : Int32} : vw9 lg (u2 it 489 2 q) = setA (vw9 lg it) q := by
  unfold vw9 setA
  rw [u2_ne (by decide), u2_ne (by decide), u2_eq, u2_ne (by decide), u2_row (by decide)]
theorem w9_setB {lg : LGt} {it : ITt} {q : Int32} : vw9 lg (u2 it 489 3 q) = setB (vw9 lg it) q := by
  unfold vw9 setB
  rw [u2_ne (by decide), u2_ne (by decide), u2_ne (by decide), u2_eq, u2_row (by decide)]
theorem w9_setM {lg : LGt} {it : ITt} {i : Nat} {m : Int32} (hi : i < (it 489 0).toNatClampNeg) : vw9 lg (u2 it 490 i m) = setM (vw9 lg it) i m := by
  unfold vw9 setM
  rw [u2_row (by decide)]
  have eM : (fun j => if j < (it 489 0).toNatClampNeg then u2 it 490 i m 490 j else 0) = (fun j => if j = i then m else if j < (it 489 0).toNatClampNeg then it 490 j else 0) := by
    funext j
    by_cases z : j = i
    · subst z; rw [if_pos hi, if_pos rfl, u2_eq]
    · rw [if_neg z, u2_ne z]
  rw [eM]
theorem w9_setS {lg lg1 lg2 : LGt} {it : ITt} {i : Nat} {a b : Int64} (hi : i < (it 489 0).toNatClampNeg) (e1 : lg1 = u2 lg 493 i a) (e2 : lg2 = u2 lg1 494 i b) : vw9 lg2 it = setS (vw9 lg it) i (a, b) := by
  have r (j : Nat) (h3 : j ≠ 493) (h4 : j ≠ 494) : lg2 j = lg j := by rw [e2, u2_row h4, e1, u2_row h3]
  unfold vw9 setS
  rw [r 491 (by decide) (by decide), r 492 (by decide) (by decide)]
  have eS : (fun j => if j < (it 489 0).toNatClampNeg then (lg2 493 j, lg2 494 j) else ((0, 1) : QQ)) = (fun j => if j = i then (a, b) else if j < (it 489 0).toNatClampNeg then (lg 493 j, lg 494 j) else (0, 1)) := by
    funext j
    rw [e2, u2_row (by decide), e1]
    by_cases z : j = i
    · subst z; rw [if_pos hi, if_pos rfl, u2_eq, u2_eq]
    · rw [if_neg z, u2_ne z, u2_ne z, u2_row (by decide)]
  rw [eS]
theorem w9_add {lg lg1 lg2 lg3 lg4 : LGt} {it it1 it2 : ITt} {n x m : Int32} {p q s t : Int64} (hn : it 489 0 = n) (hn6 : 0 ≤ n.toInt ∧ n.toInt < 6) (e1 : it1 = u2 it 490 n.toNatClampNeg m) (e2 : lg1 = u2 lg 491 n.toNatClampNeg p) (e3 : lg2 = u2 lg1 492 n.toNatClampNeg q) (e4 : lg3 = u2 lg2 493 n.toNatClampNeg s) (e5 : lg4 = u2 lg3 494 n.toNatClampNeg t) (e6 : it2 = u2 it1 489 0 x) (hx : x.toInt = n.toInt + 1) : vw9 lg4 it2 = addB (vw9 lg it) (p, q) (s, t) m := by
  have k1 := cl32 hn6.1
  have k2 := cl32 (i := x) (by omega)
  have x1 : x.toNatClampNeg = n.toNatClampNeg + 1 := by omega
  have hN : rN (vw9 lg it) = n.toNatClampNeg := by show (it 489 0).toNatClampNeg = _; rw [hn]
  have i0 : it2 489 0 = x := by rw [e6, u2_eq]
  have ik (k : Nat) (hk : k ≠ 0) : it2 489 k = it 489 k := by rw [e6, u2_ne hk, e1, u2_row (by decide)]
  have iM : it2 490 = u2 it 490 n.toNatClampNeg m 490 := by rw [e6, u2_row (by decide), e1]
  have l1 : lg4 491 = u2 lg 491 n.toNatClampNeg p 491 := by rw [e5, u2_row (by decide), e4, u2_row (by decide), e3, u2_row (by decide), e2]
  have l2 : lg4 492 = u2 lg1 492 n.toNatClampNeg q 492 := by rw [e5, u2_row (by decide), e4, u2_row (by decide), e3]
  have l3 : lg4 493 = u2 lg2 493 n.toNatClampNeg s 493 := by rw [e5, u2_row (by decide), e4]
  have l4 : lg4 494 = u2 lg3 494 n.toNatClampNeg t 494 := by rw [e5]
  have o2 : lg1 492 = lg 492 := by rw [e2, u2_row (by decide)]
  have o3 : lg2 493 = lg 493 := by rw [e3, u2_row (by decide), e2, u2_row (by decide)]
  have o4 : lg3 494 = lg 494 := by rw [e4, u2_row (by decide), e3, u2_row (by decide), e2, u2_row (by decide)]
  unfold addB
  rw [hN]
  show vw9 lg4 it2 = (n.toNatClampNeg + 1, (fun j => if j = n.toNatClampNeg then m else if j < (it 489 0).toNatClampNeg then it 490 j else 0), (fun j => if j = n.toNatClampNeg then (p, q) else if j < (it 489 0).toNatClampNeg then (lg 491 j, lg 492 j) else (0, 1)), (fun j => if j = n.toNatClampNeg then (s, t) else if j < (it 489 0).toNatClampNeg then (lg 493 j, lg 494 j) else (0, 1)), it 489 1, it 489 2, it 489 3)
  unfold vw9
  rw [i0, ik 1 (by decide), ik 2 (by decide), ik 3 (by decide), x1, hn]
  have eM : (fun j => if j < n.toNatClampNeg + 1 then it2 490 j else 0) = (fun j => if j = n.toNatClampNeg then m else if j < n.toNatClampNeg then it 490 j else 0) := by
    funext j
    rw [iM]
    by_cases z : j = n.toNatClampNeg
    · rw [if_pos (by omega), if_pos z, z, u2_eq]
    · rw [if_neg z, u2_ne z]
      by_cases y : j < n.toNatClampNeg
      · rw [if_pos (by omega), if_pos y]
      · rw [if_neg (by omega), if_neg y]
  have eP : (fun j => if j < n.toNatClampNeg + 1 then (lg4 491 j, lg4 492 j) else ((0, 1) : QQ)) = (fun j => if j = n.toNatClampNeg then (p, q) else if j < n.toNatClampNeg then (lg 491 j, lg 492 j) else (0, 1)) := by
    funext j
    rw [l1, l2]
    by_cases z : j = n.toNatClampNeg
    · rw [if_pos (by omega), if_pos z, z, u2_eq, u2_eq]
    · rw [if_neg z, u2_ne z, u2_ne z, o2]
      by_cases y : j < n.toNatClampNeg
      · rw [if_pos (by omega), if_pos y]
      · rw [if_neg (by omega), if_neg y]
  have eS : (fun j => if j < n.toNatClampNeg + 1 then (lg4 493 j, lg4 494 j) else ((0, 1) : QQ)) = (fun j => if j = n.toNatClampNeg then (s, t) else if j < n.toNatClampNeg then (lg 493 j, lg 494 j) else (0, 1)) := by
    funext j
    rw [l3, l4]
    by_cases z : j = n.toNatClampNeg
    · rw [if_pos (by omega), if_pos z, z, u2_eq, u2_eq]
    · rw [if_neg z, u2_ne z, u2_ne z, o3, o4]
      by_cases y : j < n.toNatClampNeg
      · rw [if_pos (by omega), if_pos y]
      · rw [if_neg (by omega), if_neg y]
  rw [eM, eP, eS]
/-! answers, and the rail behind them -/
def spA (V : Rlv) (q : Int32) : Int32 × Rlv := if 0 ≤ q.toInt ∧ q.toInt ≤ 4 then (rE V, setE V q) else (-2, V)
def rnA (V : Rlv) (b w x : Int32) : Int32 × Rlv :=
  if ¬ (0 ≤ b.toInt ∧ b.toInt < rN V) then (-1, V) else if ¬ (0 ≤ w.toInt ∧ w.toInt ≤ 1) then (-1, V)
  else if w.toInt = 0 then (if 1 ≤ x.toInt ∧ x.toInt ≤ 9 then (Int32.ofNat (rN V), setM V b.toNatClampNeg x) else (-2, V))
  else (if -9 ≤ x.toInt ∧ x.toInt ≤ 9 then (Int32.ofNat (rN V), setS V b.toNatClampNeg (x.toInt64, 1)) else (-2, V))
/-- it isn't right of the last one -/
def Nr (V : Rlv) (p : Int32) : Prop := 0 < rN V ∧ ∀ r, oL (some (rP V (rN V - 1))) (some (p.toInt64, 1)) = some r → ¬ r.1 < 0
noncomputable def bmA (V : Rlv) (p m s : Int32) : Int32 × Rlv :=
  if ¬ ((0 ≤ p.toInt ∧ p.toInt ≤ 99) ∧ (1 ≤ m.toInt ∧ m.toInt ≤ 9) ∧ (-9 ≤ s.toInt ∧ s.toInt ≤ 9)) then (-2, V)
  else @ite _ (Nr V p) (Classical.propDecidable _) (-3, V) (if 6 ≤ rN V then (-4, V) else (Int32.ofNat (rN V), addB V (p.toInt64, 1) (s.toInt64, 1) m))
def Bey1 (p : QQ) (s : Int32) : Prop := (s.toInt = 0 ∧ p.1 < 0) ∨ (¬ s.toInt = 0 ∧ ∀ r, oL (some p) (some (100, 1)) = some r → 0 < r.1)
def Bey (V : Rlv) (s : Int32) : Prop := ∃ i, i < rN V ∧ Bey1 (rP V i) s
noncomputable def wlA (V : Rlv) (s q : Int32) : Int32 × Rlv :=
  if ¬ (0 ≤ s.toInt ∧ s.toInt ≤ 1) then (-1, V) else if ¬ (-1 ≤ q.toInt ∧ q.toInt ≤ 4) then (-2, V)
  else @ite _ (0 ≤ q.toInt ∧ Bey V s) (Classical.propDecidable _) (-3, V) (if s.toInt = 0 then (wTold (rA V), setA V q) else (wTold (rB V), setB V q))
noncomputable def goA (V : Rlv) (k : Int32) : Int32 × Rlv := if ¬ (0 ≤ k.toInt ∧ k.toInt ≤ 20) then (-2, V) else (Int32.ofNat (min k.toNatClampNeg (cnt V 20)), (runA V (min k.toNatClampNeg (cnt V 20))).2.2)
theorem vo_setE {V : Rlv} {q : Int32} (h : VO V) (hq : 0 ≤ q.toInt ∧ q.toInt ≤ 4) : VO (setE V q) := ⟨h.1, h.2.1, h.2.2.1, h.2.2.2.1, hq, h.2.2.2.2.2⟩
theorem vo_setA {V : Rlv} {q : Int32} (h : VO V) (hq : -1 ≤ q.toInt ∧ q.toInt ≤ 4) : VO (setA V q) := ⟨h.1, h.2.1, h.2.2.1, h.2.2.2.1, h.2.2.2.2.1, hq, h.2.2.2.2.2.2⟩
theorem vo_setB {V : Rlv} {q : Int32} (h : VO V) (hq : -1 ≤ q.toInt ∧ q.toInt ≤ 4) : VO (setB V q) := ⟨h.1, h.2.1, h.2.2.1, h.2.2.2.1, h.2.2.2.2.1, h.2.2.2.2.2.1, hq⟩
theorem vo_setM {V : Rlv} {i : Nat} {m : Int32} (h : VO V) (hi : i < rN V) (hm : 1 ≤ m.toInt ∧ m.toInt ≤ 9) : VO (setM V i m) := by
  refine ⟨h.1, h.2.1, fun j hj => ?_, fun j hj => ⟨?_, (h.2.2.2.1 j hj).2⟩, h.2.2.2.2⟩
  · show 1 ≤ (if j = i then m else rM V j).toInt ∧ (if j = i then m else rM V j).toInt ≤ 9
    split
    · exact hm
    · exact h.2.2.1 j hj
  · show (if j = i then m else rM V j) = 0
    have hj : ¬ j < rN V := hj
    rw [if_neg (by omega)]
    exact (h.2.2.2.1 j hj).1
theorem vo_setS {V : Rlv} {i : Nat} {s : QQ} (h : VO V) (hi : i < rN V) (hs : 0 < s.2.toInt) : VO (setS V i s) := by
  refine ⟨h.1, fun j => ⟨(h.2.1 j).1, ?_⟩, h.2.2.1, fun j hj => ⟨(h.2.2.2.1 j hj).1, (h.2.2.2.1 j hj).2.1, ?_⟩, h.2.2.2.2⟩
  · show 0 < (if j = i then s else rS V j).2.toInt
    split
    · exact hs
    · exact (h.2.1 j).2
  · show (if j = i then s else rS V j) = (0, 1)
    have hj : ¬ j < rN V := hj
    rw [if_neg (by omega)]
    exact (h.2.2.2.1 j hj).2.2
theorem vo_addB {V : Rlv} {p s : QQ} {m : Int32} (h : VO V) (hn : rN V < 6) (hp : 0 < p.2.toInt) (hs : 0 < s.2.toInt) (hm : 1 ≤ m.toInt ∧ m.toInt ≤ 9) : VO (addB V p s m) := by
  refine ⟨show rN V + 1 ≤ 6 by omega, fun j => ⟨?_, ?_⟩, fun j hj => ?_, fun j hj => ?_, h.2.2.2.2⟩
  · show 0 < (if j = rN V then p else rP V j).2.toInt
    split
    · exact hp
    · exact (h.2.1 j).1
  · show 0 < (if j = rN V then s else rS V j).2.toInt
    split
    · exact hs
    · exact (h.2.1 j).2
  · show 1 ≤ (if j = rN V then m else rM V j).toInt ∧ (if j = rN V then m else rM V j).toInt ≤ 9
    have hj : j < rN V + 1 := hj
    split
    · exact hm
    · exact h.2.2.1 j (by omega)
  · show (if j = rN V then m else rM V j) = 0 ∧ (if j = rN V then p else rP V j) = (0, 1) ∧ (if j = rN V then s else rS V j) = (0, 1)
    have hj : ¬ j < rN V + 1 := hj
    rw [if_neg (by omega), if_neg (by omega), if_neg (by omega)]
    exact h.2.2.2.1 j (by omega)
theorem vo_sp {V : Rlv} {q : Int32} (h : VO V) : VO (spA V q).2 := by
  unfold spA
  split
  · rename_i c; exact vo_setE h c
  · exact h
theorem vo_rn {V : Rlv} {b w x : Int32} (h : VO V) : VO (rnA V b w x).2 := by
  unfold rnA
  split
  · exact h
  · rename_i c
    have c2 : b.toNatClampNeg < rN V := by
      have := cl32 (i := b) (by omega)
      omega
    split
    · exact h
    · split
      · split
        · rename_i c3; exact vo_setM h c2 c3
        · exact h
      · split
        · exact vo_setS h c2 (show 0 < (1 : Int64).toInt by decide)
        · exact h
theorem vo_bm {V : Rlv} {p m s : Int32} (h : VO V) : VO (bmA V p m s).2 := by
  unfold bmA
  split
  · exact h
  · rename_i c
    split
    · exact h
    · split
      · exact h
      · exact vo_addB h (by omega) (show 0 < (1 : Int64).toInt by decide) (show 0 < (1 : Int64).toInt by decide) (by omega)
theorem vo_wl {V : Rlv} {s q : Int32} (h : VO V) : VO (wlA V s q).2 := by
  unfold wlA
  split
  · exact h
  · split
    · exact h
    · rename_i c
      split
      · exact h
      · split
        · exact vo_setA h (by omega)
        · exact vo_setB h (by omega)
theorem vo_go {V : Rlv} {k : Int32} (h : VO V) : VO (goA V k).2 := by
  unfold goA
  split
  · exact h
  · exact (run_vo h _).1
