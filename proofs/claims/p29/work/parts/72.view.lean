/-! the memory of the first side as rails -/
def vw8 (lg : LGt) (it : ITt) (r : Nat) : Rlv :=
  ((it r 0).toNatClampNeg,
   (fun i => if i < (it r 0).toNatClampNeg then it (r + 1) i else 0),
   (fun i => if i < (it r 0).toNatClampNeg then (lg (r + 4 + 2 * i) 0, lg (r + 4 + 2 * i) 1) else (0, 1)),
   (fun i => if i < (it r 0).toNatClampNeg then (lg (r + 5 + 2 * i) 0, lg (r + 5 + 2 * i) 1) else (0, 1)),
   it r 4, it (r + 16) 0, it (r + 16) 1)
def Ok8 (it : ITt) (r : Nat) : Prop := ∀ i, i < (it r 0).toNatClampNeg → it (r + 4 + 2 * i) 2 = 0 ∧ it (r + 5 + 2 * i) 2 = 0
theorem fv_at {lg : LGt} {it : ITt} {j : Nat} {q : FV} : fv (sL lg j q.1 q.2.1) (sI it j 2 q.2.2) j = q := by unfold fv sI; rw [sL_0, sL_1, u2_eq]
theorem fv_a3 {lg : LGt} {it : ITt} {j : Nat} {a b : Int64} {o : Int32} : fv (sL lg j a b) (sI it j 2 o) j = (a, b, o) := by unfold fv sI; rw [sL_0, sL_1, u2_eq]
theorem fv_ne {lg : LGt} {it : ITt} {j k : Nat} {a b : Int64} {o : Int32} (h : k ≠ j) : fv (sL lg j a b) (sI it j 2 o) k = fv lg it k := by unfold fv sI; rw [sL_row h, u2_row h]
theorem fv_ui {lg : LGt} {it : ITt} {c j k : Nat} {v : Int32} (h : c ≠ j) : fv lg (u2 it j k v) c = fv lg it c := by unfold fv; rw [u2_row h]
theorem fv_ul {lg : LGt} {it : ITt} {c j k : Nat} {v : Int64} (h : c ≠ j) : fv (u2 lg j k v) it c = fv lg it c := by unfold fv; rw [u2_row h]
theorem fv_k {S : Nat → Prop} {lg lg' : LGt} {it it' : ITt} {c : Nat} (hk : Kc S lg it lg' it') (h : ¬ S c) : fv lg' it' c = fv lg it c := by unfold fv; rw [(hk c h).1, (hk c h).2]
theorem vM_lt {lg : LGt} {it : ITt} {r i : Nat} (h : i < (it r 0).toNatClampNeg) : rM (vw8 lg it r) i = it (r + 1) i := if_pos h
theorem vP_lt {lg : LGt} {it : ITt} {r i : Nat} (h : i < (it r 0).toNatClampNeg) : rP (vw8 lg it r) i = (lg (r + 4 + 2 * i) 0, lg (r + 4 + 2 * i) 1) := if_pos h
theorem vS_lt {lg : LGt} {it : ITt} {r i : Nat} (h : i < (it r 0).toNatClampNeg) : rS (vw8 lg it r) i = (lg (r + 5 + 2 * i) 0, lg (r + 5 + 2 * i) 1) := if_pos h
theorem tP {S : Nat → Prop} {lg0 lg : LGt} {it0 it : ITt} {r i j : Nat} (hk : Kc S lg0 it0 lg it) (hok : Ok8 it0 r) (e : j = i) (hi : j < (it0 r 0).toNatClampNeg) (hs : ¬ S (r + 4 + 2 * j)) : abF (fv lg it (r + 4 + 2 * j)) = some (rP (vw8 lg0 it0 r) i) := by
  subst e
  rw [fv_k hk hs, vP_lt hi]
  exact abF_0 (hok j hi).1
theorem tS {S : Nat → Prop} {lg0 lg : LGt} {it0 it : ITt} {r i j : Nat} (hk : Kc S lg0 it0 lg it) (hok : Ok8 it0 r) (e : j = i) (hi : j < (it0 r 0).toNatClampNeg) (hs : ¬ S (r + 5 + 2 * j)) : abF (fv lg it (r + 5 + 2 * j)) = some (rS (vw8 lg0 it0 r) i) := by
  subst e
  rw [fv_k hk hs, vS_lt hi]
  exact abF_0 (hok j hi).2
theorem cl_sub1 {a : Int32} (h : 1 ≤ a.toInt) : (a - 1).toNatClampNeg = a.toNatClampNeg - 1 := by
  have h2 := a.toInt_lt
  have e := sb32 (x := a) (y := 1) rfl ti_1 (by omega) (by omega)
  have e1 := cl32 (i := a) (by omega)
  have e2 := cl32 (i := a - 1) (by omega)
  omega
theorem cl_add1 {a : Int32} (h0 : 0 ≤ a.toInt) (h : a.toInt < 2147483647) : (a + 1).toNatClampNeg = a.toNatClampNeg + 1 := by
  have e := ad32 (x := a) (y := 1) rfl ti_1 (by omega) (by omega)
  have e1 := cl32 (i := a) (by omega)
  have e2 := cl32 (i := a + 1) (by omega)
  omega
theorem cl_lt {a b : Int32} (h0 : 0 ≤ a.toInt) (h : a.toInt < b.toInt) : a.toNatClampNeg < b.toNatClampNeg := by
  have e1 := cl32 (i := a) (by omega)
  have e2 := cl32 (i := b) (by omega)
  omega
theorem cl_eq {a b : Int32} (h : a.toInt = b.toInt) : a.toNatClampNeg = b.toNatClampNeg := by rw [Int32.toInt_inj.mp h]
theorem cl_e0 {a : Int32} (h : a.toInt = 0) : a.toNatClampNeg = 0 := by
  have e1 := cl32 (i := a) (by omega)
  omega
theorem vw8_e {lg lg' : LGt} {it it' : ITt} {r : Nat} (h : ∀ j, r ≤ j → j < r + 17 → lg' j = lg j ∧ it' j = it j) (hn : (it r 0).toNatClampNeg ≤ 6) : vw8 lg' it' r = vw8 lg it r ∧ (Ok8 it r → Ok8 it' r) := by
  have e0 := (h r (by omega) (by omega)).2
  have e1 := (h (r + 1) (by omega) (by omega)).2
  have e2 := (h (r + 16) (by omega) (by omega)).2
  constructor
  · unfold vw8
    rw [e0, e1, e2]
    have eP : (fun i => if i < (it r 0).toNatClampNeg then (lg' (r + 4 + 2 * i) 0, lg' (r + 4 + 2 * i) 1) else ((0, 1) : QQ)) = (fun i => if i < (it r 0).toNatClampNeg then (lg (r + 4 + 2 * i) 0, lg (r + 4 + 2 * i) 1) else (0, 1)) := by
      funext i
      split
      · rw [(h (r + 4 + 2 * i) (by omega) (by omega)).1]
      · rfl
    have eS : (fun i => if i < (it r 0).toNatClampNeg then (lg' (r + 5 + 2 * i) 0, lg' (r + 5 + 2 * i) 1) else ((0, 1) : QQ)) = (fun i => if i < (it r 0).toNatClampNeg then (lg (r + 5 + 2 * i) 0, lg (r + 5 + 2 * i) 1) else (0, 1)) := by
      funext i
      split
      · rw [(h (r + 5 + 2 * i) (by omega) (by omega)).1]
      · rfl
    rw [eP, eS]
  · intro hok i hi
    rw [e0] at hi
    rw [(h (r + 4 + 2 * i) (by omega) (by omega)).2, (h (r + 5 + 2 * i) (by omega) (by omega)).2]
    exact hok i hi
theorem n6 {lg : LGt} {it : ITt} {r : Nat} (hI : I8 lg it) (hr : r ∈ rb) : (it r 0).toNatClampNeg ≤ 6 := by
  have h := i8_3 hI (obr hr)
  have := cl32 h.1
  omega
theorem vw8_k {S : Nat → Prop} {lg lg' : LGt} {it it' : ITt} {r : Nat} (hr : r ∈ rb) (hI : I8 lg it) (hk : Kc S lg it lg' it') (hs : ∀ j, r ≤ j → j < r + 17 → ¬ S j) : vw8 lg' it' r = vw8 lg it r ∧ (Ok8 it r → Ok8 it' r) := vw8_e (fun j a b => hk j (hs j a b)) (n6 hI hr)
/-- two rails that hold the same -/
theorem vw8_q {lg lg' : LGt} {it it' : ITt} {r s : Nat} (h0 : it' r 0 = it s 0) (h4 : it' r 4 = it s 4) (ha : it' (r + 16) 0 = it (s + 16) 0) (hb : it' (r + 16) 1 = it (s + 16) 1) (hr : ∀ i, i < (it s 0).toNatClampNeg → it' (r + 1) i = it (s + 1) i ∧ (lg' (r + 4 + 2 * i) 0 = lg (s + 4 + 2 * i) 0 ∧ lg' (r + 4 + 2 * i) 1 = lg (s + 4 + 2 * i) 1) ∧ (lg' (r + 5 + 2 * i) 0 = lg (s + 5 + 2 * i) 0 ∧ lg' (r + 5 + 2 * i) 1 = lg (s + 5 + 2 * i) 1)) : vw8 lg' it' r = vw8 lg it s := by
  unfold vw8
  rw [h0, h4, ha, hb]
  have eM : (fun i => if i < (it s 0).toNatClampNeg then it' (r + 1) i else 0) = (fun i => if i < (it s 0).toNatClampNeg then it (s + 1) i else 0) := by
    funext i
    split
    · rename_i c; rw [(hr i c).1]
    · rfl
  have eP : (fun i => if i < (it s 0).toNatClampNeg then (lg' (r + 4 + 2 * i) 0, lg' (r + 4 + 2 * i) 1) else ((0, 1) : QQ)) = (fun i => if i < (it s 0).toNatClampNeg then (lg (s + 4 + 2 * i) 0, lg (s + 4 + 2 * i) 1) else (0, 1)) := by
    funext i
    split
    · rename_i c; rw [(hr i c).2.1.1, (hr i c).2.1.2]
    · rfl
  have eS : (fun i => if i < (it s 0).toNatClampNeg then (lg' (r + 5 + 2 * i) 0, lg' (r + 5 + 2 * i) 1) else ((0, 1) : QQ)) = (fun i => if i < (it s 0).toNatClampNeg then (lg (s + 5 + 2 * i) 0, lg (s + 5 + 2 * i) 1) else (0, 1)) := by
    funext i
    split
    · rename_i c; rw [(hr i c).2.2.1, (hr i c).2.2.2]
    · rfl
  rw [eM, eP, eS]
theorem rb_apart {r s : Nat} (hr : r ∈ rb) (hs : s ∈ rb) (h : r ≠ s) : r + 17 ≤ s ∨ s + 17 ≤ r := (show ∀ r ∈ rb, ∀ s ∈ rb, r ≠ s → r + 17 ≤ s ∨ s + 17 ≤ r by decide +kernel) r hr s hs h
theorem rat4 {x y : Int64} {q : Int32} (h : 0 ≤ q.toInt ∧ q.toInt ≤ 4) : abF (stF x y 0 q.toInt64 4) = qF q := by
  have e : stF x y 0 q.toInt64 4 = (q.toInt64 / sgn (euc 200 4 (q.toInt64 - q.toInt64 / 4 * 4)) 4, 4 / sgn (euc 200 4 (q.toInt64 - q.toInt64 / 4 * 4)) 4, ovr (sgn (euc 200 4 (q.toInt64 - q.toInt64 / 4 * 4)) 4) q.toInt64 4) := by
    unfold stF
    exact if_neg (by decide)
  rw [e]
  have hq : q = 0 ∨ q = 1 ∨ q = 2 ∨ q = 3 ∨ q = 4 := by
    rcases (show q.toInt = 0 ∨ q.toInt = 1 ∨ q.toInt = 2 ∨ q.toInt = 3 ∨ q.toInt = 4 by omega) with h | h | h | h | h
    · exact Or.inl (Int32.toInt_inj.mp (h.trans ti_0.symm))
    · exact Or.inr (Or.inl (Int32.toInt_inj.mp (h.trans ti_1.symm)))
    · exact Or.inr (Or.inr (Or.inl (Int32.toInt_inj.mp (h.trans ti_2.symm))))
    · exact Or.inr (Or.inr (Or.inr (Or.inl (Int32.toInt_inj.mp (h.trans ti_3.symm)))))
    · exact Or.inr (Or.inr (Or.inr (Or.inr (Int32.toInt_inj.mp (h.trans ti_4.symm)))))
  rcases hq with rfl | rfl | rfl | rfl | rfl <;> decide +kernel
/-! a gap's delay, by what is seen of it -/
theorem gp_0n {V : Rlv} {k : Nat} (hk : k = 0) (h : (rA V).toInt = -1) : gap V k = none := by
  subst hk; unfold gap
  rw [if_pos rfl, if_pos (Or.inl (Int32.toInt_inj.mp (h.trans ti_m1.symm)))]
theorem gp_0p {V : Rlv} {k : Nat} {s : QQ} (hk : k = 0) (hs : rS V 0 = s) (h : ¬ s.1 < 0) : gap V k = none := by
  subst hk hs; unfold gap
  rw [if_pos rfl, if_pos (Or.inr h)]
theorem gp_0 {V : Rlv} {k : Nat} {s : QQ} (hk : k = 0) (hs : rS V 0 = s) (ha : ¬ (rA V).toInt = -1) (h : s.1 < 0) : gap V k = some (oB (some (rP V 0)) (oL (some (0, 1)) (some (rS V 0)))) := by
  subst hk hs; unfold gap
  rw [if_pos rfl, if_neg (fun q => q.elim (fun z => ha (by rw [z, ti_m1])) (fun z => z h))]
theorem gp_nn {V : Rlv} {k : Nat} (hk : ¬ k = 0) (hn : k = rN V) (h : (rB V).toInt = -1) : gap V k = none := by
  unfold gap
  rw [if_neg hk, if_pos hn, if_pos (Or.inl (Int32.toInt_inj.mp (h.trans ti_m1.symm)))]
theorem gp_np {V : Rlv} {k : Nat} {s : QQ} (hk : ¬ k = 0) (hn : k = rN V) (hs : rS V (k - 1) = s) (h : ¬ 0 < s.1) : gap V k = none := by
  subst hs; unfold gap
  rw [if_neg hk, if_pos hn, if_pos (Or.inr h)]
theorem gp_n {V : Rlv} {k : Nat} {s : QQ} (hk : ¬ k = 0) (hn : k = rN V) (hs : rS V (k - 1) = s) (hb : ¬ (rB V).toInt = -1) (h : 0 < s.1) : gap V k = some (oB (oL (some (100, 1)) (some (rP V (k - 1)))) (some (rS V (k - 1)))) := by
  subst hs; unfold gap
  rw [if_neg hk, if_pos hn, if_neg (fun q => q.elim (fun z => hb (by rw [z, ti_m1])) (fun z => z h))]
theorem gp_io {V : Rlv} {k : Nat} {v : FV} {X : Option QQ} (hk : ¬ k = 0) (hn : ¬ k = rN V) (h : abF v = oL (some (rS V (k - 1))) (some (rS V k))) (ho : ¬ v.2.2.toInt = 0) : gap V k = some (oB X (oL (some (rS V (k - 1))) (some (rS V k)))) := by
  unfold gap
  rw [abF_1 (fun q => ho (by rw [q]; rfl))] at h
  rw [if_neg hk, if_neg hn, ← h, oB_n]
theorem gp_in {V : Rlv} {k : Nat} {v : FV} (hk : ¬ k = 0) (hn : ¬ k = rN V) (h : abF v = oL (some (rS V (k - 1))) (some (rS V k))) (ho : v.2.2.toInt = 0) (hp : ¬ 0 < v.1) : gap V k = none := by
  unfold gap
  rw [abF_0 (Int32.toInt_inj.mp (ho.trans ti_0.symm))] at h
  rw [if_neg hk, if_neg hn, ← h]
  exact if_neg hp
theorem gp_i {V : Rlv} {k : Nat} {v : FV} (hk : ¬ k = 0) (hn : ¬ k = rN V) (h : abF v = oL (some (rS V (k - 1))) (some (rS V k))) (ho : v.2.2.toInt = 0) (hp : 0 < v.1) : gap V k = some (oB (oL (some (rP V k)) (some (rP V (k - 1)))) (oL (some (rS V (k - 1))) (some (rS V k)))) := by
  unfold gap
  rw [abF_0 (Int32.toInt_inj.mp (ho.trans ti_0.symm))] at h
  rw [if_neg hk, if_neg hn, ← h]
  exact if_pos hp
