/-! the first side: ALL -/
def RV (lg : LGt) (it : ITt) (r : Nat) (V : Rlv) : Prop := vw8 lg it r = V ∧ Ok8 it r ∧ (it r 0).toNatClampNeg ≤ 6
theorem rv_e {lg lg' : LGt} {it it' : ITt} {r : Nat} {V : Rlv} (h : RV lg it r V) (he : ∀ j, r ≤ j → j < r + 17 → lg' j = lg j ∧ it' j = it j) : RV lg' it' r V := by
  have z := vw8_e he h.2.2
  refine ⟨z.1.trans h.1, z.2 h.2.1, ?_⟩
  rw [(he r (by omega) (by omega)).2]
  exact h.2.2
theorem rv_f {lg : LGt} {it : ITt} {r j : Nat} {V : Rlv} {a b : Int64} {o : Int32} (h : RV lg it r V) (hj : j < r ∨ r + 17 ≤ j) : RV (sL lg j a b) (sI it j 2 o) r V := rv_e h (fun c h1 h2 => ⟨sL_row (by omega), u2_row (by omega)⟩)
theorem rv_u {lg : LGt} {it : ITt} {r j k : Nat} {V : Rlv} {v : Int32} (h : RV lg it r V) (hj : j < r ∨ r + 17 ≤ j) : RV lg (u2 it j k v) r V := rv_e h (fun c h1 h2 => ⟨rfl, u2_row (by omega)⟩)
theorem rv_l {lg : LGt} {it : ITt} {r j k : Nat} {V : Rlv} {v : Int64} (h : RV lg it r V) (hj : j < r ∨ r + 17 ≤ j) : RV (u2 lg j k v) it r V := rv_e h (fun c h1 h2 => ⟨u2_row (by omega), rfl⟩)
theorem rv_k {S : Nat → Prop} {lg lg' : LGt} {it it' : ITt} {r : Nat} {V : Rlv} (h : RV lg it r V) (hk : Kc S lg it lg' it') (hs : ∀ j, S j → j < r ∨ r + 17 ≤ j) : RV lg' it' r V := rv_e h (fun c h1 h2 => hk c (fun q => by have := hs c q; omega))
theorem rv_o {lg lg' : LGt} {it it' : ITt} {r s : Nat} {V : Rlv} (h : RV lg it s V) (e : vw8 lg' it' r = vw8 lg it s ∧ (Ok8 it s → Ok8 it' r)) : RV lg' it' r V := ⟨e.1.trans h.1, e.2 h.2.1, by
  have z : (it' r 0).toNatClampNeg = (it s 0).toNatClampNeg := congrArg (fun V : Rlv => V.1) e.1
  rw [z]; exact h.2.2⟩
/-- the stops and times up to k are those of ALL -/
def SK (lg : LGt) (it : ITt) (V : Rlv) (k : Nat) : Prop := ∀ j, j ≤ k → RV lg it (58 + 18 * j) (runA V j).2.2 ∧ abF (fv lg it (75 + 18 * j)) = some (runA V j).2.1
theorem sk_f {lg : LGt} {it : ITt} {V : Rlv} {k c : Nat} {a b : Int64} {o : Int32} (h : SK lg it V k) (hc : c < 58 ∨ 58 + 18 * (k + 1) ≤ c) : SK (sL lg c a b) (sI it c 2 o) V k := fun j hj => ⟨rv_f (h j hj).1 (by omega), by rw [fv_ne (by omega)]; exact (h j hj).2⟩
theorem sk_u {lg : LGt} {it : ITt} {V : Rlv} {k c q : Nat} {v : Int32} (h : SK lg it V k) (hc : c < 58 ∨ 58 + 18 * (k + 1) ≤ c) : SK lg (u2 it c q v) V k := fun j hj => ⟨rv_u (h j hj).1 (by omega), by rw [fv_ui (by omega)]; exact (h j hj).2⟩
theorem sk_l {lg : LGt} {it : ITt} {V : Rlv} {k c q : Nat} {v : Int64} (h : SK lg it V k) (hc : c < 58 ∨ 58 + 18 * (k + 1) ≤ c) : SK (u2 lg c q v) it V k := fun j hj => ⟨rv_l (h j hj).1 (by omega), by rw [fv_ul (by omega)]; exact (h j hj).2⟩
theorem sk_k {S : Nat → Prop} {lg lg' : LGt} {it it' : ITt} {V : Rlv} {k : Nat} (h : SK lg it V k) (hk : Kc S lg it lg' it') (hs : ∀ c, S c → c < 58 ∨ 58 + 18 * (k + 1) ≤ c) : SK lg' it' V k := fun j hj => ⟨rv_k (h j hj).1 hk (fun c q => by have := hs c q; omega), by rw [fv_k hk (fun q => by have := hs _ q; omega)]; exact (h j hj).2⟩
theorem sk_s {lg : LGt} {it : ITt} {V : Rlv} {k : Nat} (h : SK lg it V k) (h2 : RV lg it (58 + 18 * (k + 1)) (runA V (k + 1)).2.2) (h3 : abF (fv lg it (75 + 18 * (k + 1))) = some (runA V (k + 1)).2.1) : SK lg it V (k + 1) := by
  intro j hj
  by_cases e : j = k + 1
  · subst e; exact ⟨h2, h3⟩
  · exact h j (by omega)
def WK (it : ITt) (V : Rlv) (k : Nat) : Prop := ∀ j, j < k → (it 436 j).toInt = whr V j
theorem wk_e {it it' : ITt} {V : Rlv} {k : Nat} (h : WK it V k) (e : it' 436 = it 436) : WK it' V k := fun j hj => by rw [e]; exact h j hj
theorem wk_f {it : ITt} {V : Rlv} {k c : Nat} {o : Int32} (h : WK it V k) (hc : c ≠ 436) : WK (sI it c 2 o) V k := wk_e h (u2_row (fun e => hc e.symm))
theorem wk_u {it : ITt} {V : Rlv} {k c q : Nat} {v : Int32} (h : WK it V k) (hc : c ≠ 436) : WK (u2 it c q v) V k := wk_e h (u2_row (fun e => hc e.symm))
theorem wk_l {it : ITt} {V : Rlv} {k c : Nat} (h : WK it V k) (hc : c ≠ 436) : WK it V k := h
theorem wk_k {S : Nat → Prop} {lg lg' : LGt} {it it' : ITt} {V : Rlv} {k : Nat} (h : WK it V k) (hk : Kc S lg it lg' it') (hs : ∀ c, S c → c ≠ 436) : WK it' V k := wk_e h (hk 436 (fun q => hs _ q rfl)).2
theorem wk_s {it it' : ITt} {V : Rlv} {k : Nat} {v : Int32} (h : WK it V k) (e : it' = u2 it 436 k v) (hv : v.toInt = whr V k) : WK it' V (k + 1) := by
  intro j hj
  rw [e]
  by_cases z : j = k
  · rw [z, u2_eq]; exact hv
  · rw [u2_ne z]; exact h j (by omega)
/-- what the course holds -/
def CIs (lg : LGt) (it : ITt) (V : Rlv) (m : Nat) : Prop := (it 55 3).toInt = cnt V m ∧ (it 55 4).toInt = (runA V m).1 ∧ SK lg it V (cnt V m) ∧ WK it V (cnt V m)
def CI (lg : LGt) (it : ITt) : Prop := (it 55 5).toInt = -1 ∨ (0 ≤ (it 55 5).toInt ∧ (it 55 5).toInt ≤ 20 ∧ VO (vw8 lg it 58) ∧ CIs lg it (vw8 lg it 58) (it 55 5).toNatClampNeg)
theorem ci_is {lg : LGt} {it : ITt} {V : Rlv} {x : Int32} (hV : VO V) (hx : 0 ≤ x.toInt ∧ x.toInt ≤ 20) (h5 : (it 55 5).toInt = x.toInt) (h : CIs lg it V x.toNatClampNeg) : CIs lg it V x.toNatClampNeg ∧ CI lg it := by
  have e : vw8 lg it 58 = V := (h.2.2.1 0 (Nat.zero_le _)).1.1
  refine ⟨h, Or.inr ⟨by omega, by omega, by rw [e]; exact hV, ?_⟩⟩
  rw [e, cl_eq h5]
  exact h
theorem cis_m {lg : LGt} {it : ITt} {V : Rlv} {k m : Nat} (h : (runA V k).1 = 1) (e : m = k) (h3 : (it 55 3).toInt = k) (h4 : (it 55 4).toInt = 1) (hs : SK lg it V k) (hw : WK it V k) : CIs lg it V m := by
  subst e
  refine ⟨by rw [cnt_1 h]; exact h3, by rw [h]; exact h4, by rw [cnt_1 h]; exact hs, by rw [cnt_1 h]; exact hw⟩
theorem cis_e {lg : LGt} {it : ITt} {V : Rlv} {k m : Nat} {e : Int} (h : (runA V k).1 = 1) (h2 : runA V (k + 1) = (e, (runA V k).2)) (he : e ≠ 1) (hk : k < m) (h3 : (it 55 3).toInt = k) (h4 : (it 55 4).toInt = e) (hs : SK lg it V k) (hw : WK it V k) : CIs lg it V m := by
  have n1 : ¬ (runA V (k + 1)).1 = 1 := by rw [h2]; exact he
  have c := cnt_st h n1 hk
  have r : runA V m = runA V (k + 1) := run_le n1 (by omega)
  refine ⟨by rw [c]; exact h3, by rw [r, h2]; exact h4, by rw [c]; exact hs, by rw [c]; exact hw⟩
theorem res_e {V : Rlv} {v : Int32} {L : Option QQ} (h : Res V v L) (c : v.toInt = -5) : nxt V = some none := by
  rcases h with h | h | ⟨w, d, h, _⟩
  · exact h.2
  · omega
  · have := cw_ge V w; omega
theorem res_o {V : Rlv} {v : Int32} {L : Option QQ} (h : Res V v L) (c : v.toInt = -6) : nxt V = none := by
  rcases h with h | h | ⟨w, d, h, _⟩
  · omega
  · exact h.2
  · have := cw_ge V w; omega
theorem res_d {V : Rlv} {v : Int32} {L : Option QQ} (h : Res V v L) (c : ¬ v.toInt = -5) (c2 : ¬ v.toInt = -6) : ∃ w d, v.toInt = cw V w ∧ nxt V = some (some (w, d)) ∧ L = some d := by
  rcases h with h | h | h
  · exact absurd h.1 c
  · exact absurd h.1 c2
  · exact h
/-- a strike at a wall: there is one -/
theorem gap_w {V : Rlv} {i : Nat} {X : Option QQ} (h : gap V i = some X) : (i = 0 → ¬ rA V = -1) ∧ (¬ i = 0 → i = rN V → ¬ rB V = -1) := by
  unfold gap at h
  constructor
  · intro e q
    rw [if_pos e, if_pos (Or.inl q)] at h
    cases h
  · intro e n q
    rw [if_neg e, if_pos n, if_pos (Or.inl q)] at h
    cases h
theorem scan_g {V : Rlv} : ∀ (k : Nat) (l : Nat × QQ), scan V k = some (some l) → ∃ X, gap V l.1 = some X
  | 0, l, h => by cases h
  | k + 1, l, h => by
    have h : nsc (scan V k) k (gap V k) = some (some l) := h
    unfold nsc at h
    split at h
    · cases h
    · rename_i b hb
      split at h
      · injection h with h
        subst h
        exact scan_g k l hb
      · cases h
      · rename_i d hg
        split at h
        · injection h with h
          injection h with h
          subst h
          exact ⟨_, hg⟩
        · rename_i l0
          split at h
          · cases h
          · split at h
            · injection h with h
              injection h with h
              subst h
              exact ⟨_, hg⟩
            · injection h with h
              injection h with h
              subst h
              exact scan_g k _ hb
theorem nxt_w {V : Rlv} {w : Nat} {d : QQ} (hV : VO V) (h : nxt V = some (some (w, d))) : (w = 0 → 0 ≤ (rA V).toInt ∧ (rA V).toInt ≤ 4) ∧ (w = rN V → 0 ≤ (rB V).toInt ∧ (rB V).toInt ≤ 4) := by
  have hn := (nxt_pos hV h).2.2
  unfold nxt at h
  rw [if_neg (by omega)] at h
  obtain ⟨X, hX⟩ := scan_g _ _ h
  have hg := gap_w hX
  have n1 {x : Int32} (h : ¬ x = -1) : ¬ x.toInt = -1 := fun q => h (Int32.toInt_inj.mp (q.trans ti_m1.symm))
  have hA := hV.2.2.2.2.2.1
  have hB := hV.2.2.2.2.2.2
  constructor
  · intro e
    have := n1 (hg.1 e)
    omega
  · intro e
    have := n1 (hg.2 (show ¬ w = 0 by omega) e)
    omega
theorem work_l {lg0 lg : LGt} {it0 it : ITt} {a1 : Nat} {a2 : Int32} (hm : 0 ≤ a2.toInt ∧ a2.toInt ≤ 20) (hc : CI lg0 it0) (hk : Kc (fun j => False) lg0 it0 lg it) (h5 : (it0 55 5).toInt = a2.toInt) (e : vw8 lg0 it0 58 = vw8 lg0 it0 a1) : CIs lg it (vw8 lg0 it0 a1) a2.toNatClampNeg ∧ CI lg it := by
  obtain ⟨e1, e2⟩ := kf_e hk
  rw [e1, e2]
  refine ⟨?_, hc⟩
  rcases hc with h | h
  · omega
  · rw [← e, ← cl_eq h5]
    exact h.2.2.2
theorem whr_w {V : Rlv} {k w : Nat} {d : QQ} {x : Int} (h : nxt (runA V k).2.2 = some (some (w, d))) (e : x = cw (runA V k).2.2 w) : x = whr V k := by unfold whr; rw [h]; exact e
set_option maxRecDepth 100000 in
theorem f_X0_work {a1 : Nat} (ha1 : a1 ∈ rb) (a2 : Int32) {lg0 : LGt} {it0 : ITt} (hI : I8 lg0 it0) (ha : a1 = 2 ∨ a1 = 450) (hok : Ok8 it0 a1) (hV : VO (vw8 lg0 it0 a1)) (hm : 0 ≤ a2.toInt ∧ a2.toInt ≤ 20) (hc : CI lg0 it0) : w_X0_work a1 a2 (fun (lg' : LGt) (it' : ITt) => (I8 lg' it' ∧ Kc (fun j => (55 ≤ j ∧ j < 450)) lg0 it0 lg' it') ∧ (CIs lg' it' (vw8 lg0 it0 a1) a2.toNatClampNeg ∧ CI lg' it'))  lg0 it0 := by
  have hb_a2 := And.intro a2.le_toInt a2.toInt_lt
  have hKr : Kc (fun j => (55 ≤ j ∧ j < 450)) lg0 it0 lg0 it0 := kc_r
  generalize hp : (fun (lg' : LGt) (it' : ITt) => (I8 lg' it' ∧ Kc (fun j => (55 ≤ j ∧ j < 450)) lg0 it0 lg' it') ∧ (CIs lg' it' (vw8 lg0 it0 a1) a2.toNatClampNeg ∧ CI lg' it')) = Pz
  have bl22 : ∀  (lg : LGt) (it : ITt), I8 lg it → Kc (fun j => (55 ≤ j ∧ j < 450)) lg0 it0 lg it → ((it = it0) ∧ (lg = lg0)) → w_X0_work_b22 a1 a2 Pz   lg it := by
    intro  lg93 it94 hI91 hK92 hv
    unfold w_X0_work_b22
    obtain ⟨hv22_0, hv22_1⟩ := hv
    have rvA : RV lg93 it94 a1 (vw8 lg0 it0 a1) := by rw [hv22_0, hv22_1]; exact ⟨rfl, hok, n6 hI ha1⟩
    intro it95 em96
    have hI97 : I8 lg93 it95 := by rw [em96]; exact i8_u hI91 (ok8_0 (oq_55) (fun q => absurd q (by decide)))
    have hK98 : Kc (fun j => (55 ≤ j ∧ j < 450)) lg0 it0 lg93 it95 := by rw [em96]; exact kc_u (by first | omega | (dsimp only; omega)) hK92
    have e99 : (it95 55 3).toInt = (it94 55 3).toInt := by rw [em96]; exact congrArg Int32.toInt (u2_ne (by decide))
    have e100 : (it95 55 4).toInt = (it94 55 4).toInt := by rw [em96]; exact congrArg Int32.toInt (u2_ne (by decide))
    have F102 : RV lg93 it95 a1 (vw8 lg0 it0 a1) := by rw [em96]; exact rv_u rvA (by first | omega | (dsimp only; omega))
    have e103 : (it95 55 5).toInt = (a2 : Int32).toInt := by rw [em96, u2_eq]
    refine ⟨_, f_X3_become (in_rb_58) (ha1)  hI97 (by omega), ?_⟩
    intro lg104 it105 hq
    obtain ⟨⟨hI106, hK107⟩, ha110⟩ := hq
    have hK108 : Kc (fun j => (55 ≤ j ∧ j < 450)) lg0 it0 lg104 it105 := kc_t hK98 hK107 (fun j hj => by first | omega | exact False.elim hj | (dsimp only at hj ⊢; omega))
    try have e111 : (it105 55 3).toInt = (it95 55 3).toInt := congrArg (fun f => Int32.toInt (f 3)) (hK107 55 (by first | omega | (dsimp only; omega))).2
    try have e112 : (it105 55 4).toInt = (it95 55 4).toInt := congrArg (fun f => Int32.toInt (f 4)) (hK107 55 (by first | omega | (dsimp only; omega))).2
    try have e113 : (it105 55 5).toInt = (it95 55 5).toInt := congrArg (fun f => Int32.toInt (f 5)) (hK107 55 (by first | omega | (dsimp only; omega))).2
    have F114 : RV lg104 it105 a1 (vw8 lg0 it0 a1) := rv_k F102 hK107 (fun j hj => by first | omega | exact False.elim hj | (dsimp only at hj ⊢; omega))
    have F115 : RV lg104 it105 58 (vw8 lg0 it0 a1) := rv_o F102 ha110
    intro lg116 em_lg116 it117 em_it117
    have hI118 : I8 lg116 it117 := by rw [em_it117]; exact i8_u hI106 (ok8_1 (oq_75) (fun _ => Or.inl rfl))
    have hK119 : Kc (fun j => (55 ≤ j ∧ j < 450)) lg0 it0 lg116 it117 := by rw [em_lg116, em_it117]; exact kc_f (by first | omega | (dsimp only; omega)) hK108
    have T120 : abF (fv lg116 it117 75) = (some ((0 : Int64), 1)) := by rw [em_lg116, em_it117]; exact (congrArg abF fv_a3).trans (abF_0 rfl)
    have e121 : (it117 55 3).toInt = (it105 55 3).toInt := by rw [em_it117]; exact congrArg Int32.toInt (congrFun (u2_row (by decide)) 3)
    have e122 : (it117 55 4).toInt = (it105 55 4).toInt := by rw [em_it117]; exact congrArg Int32.toInt (congrFun (u2_row (by decide)) 4)
    have e123 : (it117 55 5).toInt = (it105 55 5).toInt := by rw [em_it117]; exact congrArg Int32.toInt (congrFun (u2_row (by decide)) 5)
    have F124 : RV lg116 it117 a1 (vw8 lg0 it0 a1) := by rw [em_lg116, em_it117]; exact rv_f F114 (by first | omega | (dsimp only; omega))
    have F125 : RV lg116 it117 58 (vw8 lg0 it0 a1) := by rw [em_lg116, em_it117]; exact rv_f F115 (by first | omega | (dsimp only; omega))
    intro it126 em127
    have hI128 : I8 lg116 it126 := by rw [em127]; exact i8_u hI118 (ok8_0 (oq_55) (fun _ => by (try simp only [Int32.lt_iff_toInt_lt, Int32.le_iff_toInt_le, ← Int32.toInt_inj, Int32.toInt_toInt64, ti_m14, ti_m13, ti_m12, ti_m11, ti_m10, ti_m9, ti_m6, ti_m5, ti_m4, ti_m3, ti_m2, ti_m1, ti_0, ti_1, ti_2, ti_3, ti_4, ti_5, ti_6, ti_7, ti_8, ti_9, ti_10, ti_11, ti_12, ti_19, ti_20, ti_21, ti_44, ti_45, ti_48, ti_57, ti_59, ti_60, ti_98, ti_99, ti_100, ti_101, ti_103, ti_108, ti_110, ti_114, ti_127]); omega))
    have hK129 : Kc (fun j => (55 ≤ j ∧ j < 450)) lg0 it0 lg116 it126 := by rw [em127]; exact kc_u (by first | omega | (dsimp only; omega)) hK119
    have e131 : (it126 55 4).toInt = (it117 55 4).toInt := by rw [em127]; exact congrArg Int32.toInt (u2_ne (by decide))
    have e132 : (it126 55 5).toInt = (it117 55 5).toInt := by rw [em127]; exact congrArg Int32.toInt (u2_ne (by decide))
    have F133 : RV lg116 it126 a1 (vw8 lg0 it0 a1) := by rw [em127]; exact rv_u F124 (by first | omega | (dsimp only; omega))
    have F134 : RV lg116 it126 58 (vw8 lg0 it0 a1) := by rw [em127]; exact rv_u F125 (by first | omega | (dsimp only; omega))
    have T135 : abF (fv lg116 it126 75) = (some ((0 : Int64), 1)) := by rw [em127, fv_ui (by omega)]; exact T120
    have e136 : (it126 55 3).toInt = (0 : Int32).toInt := by rw [em127, u2_eq]
    intro it137 em138
    have hI139 : I8 lg116 it137 := by rw [em138]; exact i8_u hI128 (ok8_0 (oq_55) (fun q => absurd q (by decide)))
    have hK140 : Kc (fun j => (55 ≤ j ∧ j < 450)) lg0 it0 lg116 it137 := by rw [em138]; exact kc_u (by first | omega | (dsimp only; omega)) hK129
    have e141 : (it137 55 3).toInt = (it126 55 3).toInt := by rw [em138]; exact congrArg Int32.toInt (u2_ne (by decide))
    have e143 : (it137 55 5).toInt = (it126 55 5).toInt := by rw [em138]; exact congrArg Int32.toInt (u2_ne (by decide))
    have F144 : RV lg116 it137 a1 (vw8 lg0 it0 a1) := by rw [em138]; exact rv_u F133 (by first | omega | (dsimp only; omega))
    have F145 : RV lg116 it137 58 (vw8 lg0 it0 a1) := by rw [em138]; exact rv_u F134 (by first | omega | (dsimp only; omega))
    have T146 : abF (fv lg116 it137 75) = (some ((0 : Int64), 1)) := by rw [em138, fv_ui (by omega)]; exact T135
    have e147 : (it137 55 4).toInt = (1 : Int32).toInt := by rw [em138, u2_eq]
    have lp59 : ∀ (n : Nat) (x3 : Int32) (lg : LGt) (it : ITt), I8 lg it → Kc (fun j => (55 ≤ j ∧ j < 450)) lg0 it0 lg it → ((0 ≤ (x3).toInt ∧ (x3).toInt ≤ a2.toInt) ∧ ((runA (vw8 lg0 it0 a1) (x3).toNatClampNeg).1 = 1) ∧ ((it 55 3).toInt = (x3).toInt ∧ (it 55 4).toInt = 1 ∧ (it 55 5).toInt = a2.toInt) ∧ (SK lg it (vw8 lg0 it0 a1) (x3).toNatClampNeg) ∧ (WK it (vw8 lg0 it0 a1) (x3).toNatClampNeg)) → (21 - (x3).toInt).toNat < n → w_X0_work_b59 a1 a2 Pz  n x3 lg it := by
      intro n59
      induction n59 with
      | zero => intro x3 lg it _ _ _ hn; exact absurd hn (Nat.not_lt_zero _)
      | succ n59 ih59 =>
        intro x3 lg150 it151 hI148 hK149 hv hn
        unfold w_X0_work_b59
        obtain ⟨hv59_0, hv59_1, hv59_2, hv59_3, hv59_4⟩ := hv
        have hkx := cl32 hv59_0.1
        refine ⟨fun c61 => ?_, fun c61 => ?_⟩
        · try simp only [Int32.lt_iff_toInt_lt, Int32.le_iff_toInt_le, ← Int32.toInt_inj, Int32.toInt_toInt64, ti_m14, ti_m13, ti_m12, ti_m11, ti_m10, ti_m9, ti_m6, ti_m5, ti_m4, ti_m3, ti_m2, ti_m1, ti_0, ti_1, ti_2, ti_3, ti_4, ti_5, ti_6, ti_7, ti_8, ti_9, ti_10, ti_11, ti_12, ti_19, ti_20, ti_21, ti_44, ti_45, ti_48, ti_57, ti_59, ti_60, ti_98, ti_99, ti_100, ti_101, ti_103, ti_108, ti_110, ti_114, ti_127] at c61
          subst hp
          exact ⟨⟨hI148, hK149⟩, ci_is hV hm (by omega) (cis_m hv59_1 (by have z1 := cl32 (i := x3) (by omega); have z2 := cl32 (i := a2) (by omega); omega) (by have z1 := cl32 (i := x3) (by omega); omega) (by omega) hv59_3 hv59_4)⟩
        · try simp only [Int32.lt_iff_toInt_lt, Int32.le_iff_toInt_le, ← Int32.toInt_inj, Int32.toInt_toInt64, ti_m14, ti_m13, ti_m12, ti_m11, ti_m10, ti_m9, ti_m6, ti_m5, ti_m4, ti_m3, ti_m2, ti_m1, ti_0, ti_1, ti_2, ti_3, ti_4, ti_5, ti_6, ti_7, ti_8, ti_9, ti_10, ti_11, ti_12, ti_19, ti_20, ti_21, ti_44, ti_45, ti_48, ti_57, ti_59, ti_60, ti_98, ti_99, ti_100, ti_101, ti_103, ti_108, ti_110, ti_114, ti_127] at c61
          refine ⟨fun c67 => ?_, fun c67 => ?_⟩
          · try simp only [Int32.lt_iff_toInt_lt, Int32.le_iff_toInt_le, ← Int32.toInt_inj, Int32.toInt_toInt64, ti_m14, ti_m13, ti_m12, ti_m11, ti_m10, ti_m9, ti_m6, ti_m5, ti_m4, ti_m3, ti_m2, ti_m1, ti_0, ti_1, ti_2, ti_3, ti_4, ti_5, ti_6, ti_7, ti_8, ti_9, ti_10, ti_11, ti_12, ti_19, ti_20, ti_21, ti_44, ti_45, ti_48, ti_57, ti_59, ti_60, ti_98, ti_99, ti_100, ti_101, ti_103, ti_108, ti_110, ti_114, ti_127] at c67
            subst hp
            exact ⟨⟨hI148, hK149⟩, absurd c67 (by omega)⟩
          · try simp only [Int32.lt_iff_toInt_lt, Int32.le_iff_toInt_le, ← Int32.toInt_inj, Int32.toInt_toInt64, ti_m14, ti_m13, ti_m12, ti_m11, ti_m10, ti_m9, ti_m6, ti_m5, ti_m4, ti_m3, ti_m2, ti_m1, ti_0, ti_1, ti_2, ti_3, ti_4, ti_5, ti_6, ti_7, ti_8, ti_9, ti_10, ti_11, ti_12, ti_19, ti_20, ti_21, ti_44, ti_45, ti_48, ti_57, ti_59, ti_60, ti_98, ti_99, ti_100, ti_101, ti_103, ti_108, ti_110, ti_114, ti_127] at c67
            have hk1 : (x3 + 1).toNatClampNeg = x3.toNatClampNeg + 1 := cl_add1 (by omega) (by omega)
            try have f152 : ((x3 + 1) : Int32).toInt = (x3).toInt + 1 := ad32 (a := (x3).toInt) (b := 1) (rfl) (ti_1) (by omega) (by omega)
            have hi153 : vp_in (x3 + 1) 21 := vp_of (by first | omega | ((try simp only [Int32.lt_iff_toInt_lt, Int32.le_iff_toInt_le, ← Int32.toInt_inj, Int32.toInt_toInt64, ti_m14, ti_m13, ti_m12, ti_m11, ti_m10, ti_m9, ti_m6, ti_m5, ti_m4, ti_m3, ti_m2, ti_m1, ti_0, ti_1, ti_2, ti_3, ti_4, ti_5, ti_6, ti_7, ti_8, ti_9, ti_10, ti_11, ti_12, ti_19, ti_20, ti_21, ti_44, ti_45, ti_48, ti_57, ti_59, ti_60, ti_98, ti_99, ti_100, ti_101, ti_103, ti_108, ti_110, ti_114, ti_127]); omega) | (split <;> omega)) (by first | omega | ((try simp only [Int32.lt_iff_toInt_lt, Int32.le_iff_toInt_le, ← Int32.toInt_inj, Int32.toInt_toInt64, ti_m14, ti_m13, ti_m12, ti_m11, ti_m10, ti_m9, ti_m6, ti_m5, ti_m4, ti_m3, ti_m2, ti_m1, ti_0, ti_1, ti_2, ti_3, ti_4, ti_5, ti_6, ti_7, ti_8, ti_9, ti_10, ti_11, ti_12, ti_19, ti_20, ti_21, ti_44, ti_45, ti_48, ti_57, ti_59, ti_60, ti_98, ti_99, ti_100, ti_101, ti_103, ti_108, ti_110, ti_114, ti_127]); omega) | (split <;> omega))
            refine ⟨hi153, ?_⟩
            have hz154 := vlt hi153
            have hi155 : vp_in x3 21 := vp_of (by first | omega | ((try simp only [Int32.lt_iff_toInt_lt, Int32.le_iff_toInt_le, ← Int32.toInt_inj, Int32.toInt_toInt64, ti_m14, ti_m13, ti_m12, ti_m11, ti_m10, ti_m9, ti_m6, ti_m5, ti_m4, ti_m3, ti_m2, ti_m1, ti_0, ti_1, ti_2, ti_3, ti_4, ti_5, ti_6, ti_7, ti_8, ti_9, ti_10, ti_11, ti_12, ti_19, ti_20, ti_21, ti_44, ti_45, ti_48, ti_57, ti_59, ti_60, ti_98, ti_99, ti_100, ti_101, ti_103, ti_108, ti_110, ti_114, ti_127]); omega) | (split <;> omega)) (by first | omega | ((try simp only [Int32.lt_iff_toInt_lt, Int32.le_iff_toInt_le, ← Int32.toInt_inj, Int32.toInt_toInt64, ti_m14, ti_m13, ti_m12, ti_m11, ti_m10, ti_m9, ti_m6, ti_m5, ti_m4, ti_m3, ti_m2, ti_m1, ti_0, ti_1, ti_2, ti_3, ti_4, ti_5, ti_6, ti_7, ti_8, ti_9, ti_10, ti_11, ti_12, ti_19, ti_20, ti_21, ti_44, ti_45, ti_48, ti_57, ti_59, ti_60, ti_98, ti_99, ti_100, ti_101, ti_103, ti_108, ti_110, ti_114, ti_127]); omega) | (split <;> omega))
            refine ⟨hi155, ?_⟩
            have hz156 := vlt hi155
            refine ⟨_, f_X3_become ((rst (vlt (hi153)))) ((rst (vlt (hi155))))  hI148 (by omega), ?_⟩
            intro lg157 it158 hq
            obtain ⟨⟨hI159, hK160⟩, ha163⟩ := hq
            have hK161 : Kc (fun j => (55 ≤ j ∧ j < 450)) lg0 it0 lg157 it158 := kc_t hK149 hK160 (fun j hj => by first | omega | exact False.elim hj | (dsimp only at hj ⊢; omega))
            try have e164 : (it158 55 3).toInt = (it151 55 3).toInt := congrArg (fun f => Int32.toInt (f 3)) (hK160 55 (by first | omega | (dsimp only; omega))).2
            try have e165 : (it158 55 4).toInt = (it151 55 4).toInt := congrArg (fun f => Int32.toInt (f 4)) (hK160 55 (by first | omega | (dsimp only; omega))).2
            try have e166 : (it158 55 5).toInt = (it151 55 5).toInt := congrArg (fun f => Int32.toInt (f 5)) (hK160 55 (by first | omega | (dsimp only; omega))).2
            have F167 : SK lg157 it158 (vw8 lg0 it0 a1) x3.toNatClampNeg := sk_k hv59_3 hK160 (fun j hj => by first | omega | exact False.elim hj | (dsimp only at hj ⊢; omega))
            have F168 : WK it158 (vw8 lg0 it0 a1) x3.toNatClampNeg := wk_k hv59_4 hK160 (fun j hj => by first | omega | exact False.elim hj | (dsimp only at hj ⊢; omega))
            have F169 : RV lg157 it158 (58 + 18 * (x3 + 1).toNatClampNeg) (runA (vw8 lg0 it0 a1) x3.toNatClampNeg).2.2 := rv_o (hv59_3 x3.toNatClampNeg (Nat.le_refl _)).1 ha163
            try have f170 : ((x3 + 1) : Int32).toInt = (x3).toInt + 1 := ad32 (a := (x3).toInt) (b := 1) (rfl) (ti_1) (by omega) (by omega)
            have hi171 : vp_in (x3 + 1) 21 := vp_of (by first | omega | ((try simp only [Int32.lt_iff_toInt_lt, Int32.le_iff_toInt_le, ← Int32.toInt_inj, Int32.toInt_toInt64, ti_m14, ti_m13, ti_m12, ti_m11, ti_m10, ti_m9, ti_m6, ti_m5, ti_m4, ti_m3, ti_m2, ti_m1, ti_0, ti_1, ti_2, ti_3, ti_4, ti_5, ti_6, ti_7, ti_8, ti_9, ti_10, ti_11, ti_12, ti_19, ti_20, ti_21, ti_44, ti_45, ti_48, ti_57, ti_59, ti_60, ti_98, ti_99, ti_100, ti_101, ti_103, ti_108, ti_110, ti_114, ti_127]); omega) | (split <;> omega)) (by first | omega | ((try simp only [Int32.lt_iff_toInt_lt, Int32.le_iff_toInt_le, ← Int32.toInt_inj, Int32.toInt_toInt64, ti_m14, ti_m13, ti_m12, ti_m11, ti_m10, ti_m9, ti_m6, ti_m5, ti_m4, ti_m3, ti_m2, ti_m1, ti_0, ti_1, ti_2, ti_3, ti_4, ti_5, ti_6, ti_7, ti_8, ti_9, ti_10, ti_11, ti_12, ti_19, ti_20, ti_21, ti_44, ti_45, ti_48, ti_57, ti_59, ti_60, ti_98, ti_99, ti_100, ti_101, ti_103, ti_108, ti_110, ti_114, ti_127]); omega) | (split <;> omega))
            refine ⟨hi171, ?_⟩
            have hz172 := vlt hi171
            have hi173 : vp_in x3 21 := vp_of (by first | omega | ((try simp only [Int32.lt_iff_toInt_lt, Int32.le_iff_toInt_le, ← Int32.toInt_inj, Int32.toInt_toInt64, ti_m14, ti_m13, ti_m12, ti_m11, ti_m10, ti_m9, ti_m6, ti_m5, ti_m4, ti_m3, ti_m2, ti_m1, ti_0, ti_1, ti_2, ti_3, ti_4, ti_5, ti_6, ti_7, ti_8, ti_9, ti_10, ti_11, ti_12, ti_19, ti_20, ti_21, ti_44, ti_45, ti_48, ti_57, ti_59, ti_60, ti_98, ti_99, ti_100, ti_101, ti_103, ti_108, ti_110, ti_114, ti_127]); omega) | (split <;> omega)) (by first | omega | ((try simp only [Int32.lt_iff_toInt_lt, Int32.le_iff_toInt_le, ← Int32.toInt_inj, Int32.toInt_toInt64, ti_m14, ti_m13, ti_m12, ti_m11, ti_m10, ti_m9, ti_m6, ti_m5, ti_m4, ti_m3, ti_m2, ti_m1, ti_0, ti_1, ti_2, ti_3, ti_4, ti_5, ti_6, ti_7, ti_8, ti_9, ti_10, ti_11, ti_12, ti_19, ti_20, ti_21, ti_44, ti_45, ti_48, ti_57, ti_59, ti_60, ti_98, ti_99, ti_100, ti_101, ti_103, ti_108, ti_110, ti_114, ti_127]); omega) | (split <;> omega))
            refine ⟨hi173, ?_⟩
            have hz174 := vlt hi173
            have hc177 : it158 (75 + 18 * x3.toNatClampNeg) 2 &&& 1 = it158 (75 + 18 * x3.toNatClampNeg) 2 := ib (i8_1 hI159 ((rti (vlt (hi173)))))
            refine ⟨hc177, ?_⟩
            intro lg175 em_lg175 it176 em_it176
            have hI178 : I8 lg175 it176 := by rw [em_it176]; exact i8_u hI159 (ok8_1 ((rti (vlt (hi171)))) (fun _ => i8_1 hI159 ((rti (vlt (hi173))))))
            have hK179 : Kc (fun j => (55 ≤ j ∧ j < 450)) lg0 it0 lg175 it176 := by rw [em_lg175, em_it176]; exact kc_f (by first | omega | (dsimp only; omega)) hK161
            have tf180 : abF (fv lg157 it158 (75 + 18 * x3.toNatClampNeg)) = (some (runA (vw8 lg0 it0 a1) x3.toNatClampNeg).2.1) := (F167 x3.toNatClampNeg (Nat.le_refl _)).2
            have T181 : abF (fv lg175 it176 (75 + 18 * (x3 + 1).toNatClampNeg)) = (some (runA (vw8 lg0 it0 a1) x3.toNatClampNeg).2.1) := by rw [em_lg175, em_it176]; exact (congrArg abF fv_a3).trans tf180
            try have e182 : (it176 55 3).toInt = (it158 55 3).toInt := by rw [em_it176]; exact congrArg Int32.toInt (congrFun (u2_row (by omega)) 3)
            try have e183 : (it176 55 4).toInt = (it158 55 4).toInt := by rw [em_it176]; exact congrArg Int32.toInt (congrFun (u2_row (by omega)) 4)
            try have e184 : (it176 55 5).toInt = (it158 55 5).toInt := by rw [em_it176]; exact congrArg Int32.toInt (congrFun (u2_row (by omega)) 5)
            have F185 : SK lg175 it176 (vw8 lg0 it0 a1) x3.toNatClampNeg := by rw [em_lg175, em_it176]; exact sk_f F167 (by first | omega | (dsimp only; omega))
            have F186 : WK it176 (vw8 lg0 it0 a1) x3.toNatClampNeg := by rw [em_it176]; exact wk_f F168 (by first | omega | (dsimp only; omega))
            have F187 : RV lg175 it176 (58 + 18 * (x3 + 1).toNatClampNeg) (runA (vw8 lg0 it0 a1) x3.toNatClampNeg).2.2 := by rw [em_lg175, em_it176]; exact rv_f F169 (by first | omega | (dsimp only; omega))
            refine ⟨_, f_X5_find ((rst (vlt (hi153))))  hI178 (F187.2.1), ?_⟩
            intro v193 lg188 it189 hq
            obtain ⟨⟨hI190, hK191⟩, ha194⟩ := hq
            have hK192 : Kc (fun j => (55 ≤ j ∧ j < 450)) lg0 it0 lg188 it189 := kc_t hK179 hK191 (fun j hj => by first | omega | exact False.elim hj | (dsimp only at hj ⊢; omega))
            try have e195 : (it189 55 3).toInt = (it176 55 3).toInt := congrArg (fun f => Int32.toInt (f 3)) (hK191 55 (by first | omega | (dsimp only; omega))).2
            try have e196 : (it189 55 4).toInt = (it176 55 4).toInt := congrArg (fun f => Int32.toInt (f 4)) (hK191 55 (by first | omega | (dsimp only; omega))).2
            try have e197 : (it189 55 5).toInt = (it176 55 5).toInt := congrArg (fun f => Int32.toInt (f 5)) (hK191 55 (by first | omega | (dsimp only; omega))).2
            have F198 : SK lg188 it189 (vw8 lg0 it0 a1) x3.toNatClampNeg := sk_k F185 hK191 (fun j hj => by first | omega | exact False.elim hj | (dsimp only at hj ⊢; omega))
            have F199 : WK it189 (vw8 lg0 it0 a1) x3.toNatClampNeg := wk_k F186 hK191 (fun j hj => by first | omega | exact False.elim hj | (dsimp only at hj ⊢; omega))
            have F200 : RV lg188 it189 (58 + 18 * (x3 + 1).toNatClampNeg) (runA (vw8 lg0 it0 a1) x3.toNatClampNeg).2.2 := rv_k F187 hK191 (fun j hj => by first | omega | exact False.elim hj | (dsimp only at hj ⊢; omega))
            have T201 : abF (fv lg188 it189 (75 + 18 * (x3 + 1).toNatClampNeg)) = (some (runA (vw8 lg0 it0 a1) x3.toNatClampNeg).2.1) := by rw [fv_k hK191 (by first | omega | (dsimp only; omega))]; exact T181
            rw [F187.1] at ha194
            generalize hL : abF (fv lg188 it189 438) = L at ha194
            refine ⟨fun c123 => ?_, fun c123 => ?_⟩
            · try simp only [Int32.lt_iff_toInt_lt, Int32.le_iff_toInt_le, ← Int32.toInt_inj, Int32.toInt_toInt64, ti_m14, ti_m13, ti_m12, ti_m11, ti_m10, ti_m9, ti_m6, ti_m5, ti_m4, ti_m3, ti_m2, ti_m1, ti_0, ti_1, ti_2, ti_3, ti_4, ti_5, ti_6, ti_7, ti_8, ti_9, ti_10, ti_11, ti_12, ti_19, ti_20, ti_21, ti_44, ti_45, ti_48, ti_57, ti_59, ti_60, ti_98, ti_99, ti_100, ti_101, ti_103, ti_108, ti_110, ti_114, ti_127] at c123
              refine ⟨fun c136 => ?_, fun c136 => ?_⟩
              · try simp only [Int32.lt_iff_toInt_lt, Int32.le_iff_toInt_le, ← Int32.toInt_inj, Int32.toInt_toInt64, ti_m14, ti_m13, ti_m12, ti_m11, ti_m10, ti_m9, ti_m6, ti_m5, ti_m4, ti_m3, ti_m2, ti_m1, ti_0, ti_1, ti_2, ti_3, ti_4, ti_5, ti_6, ti_7, ti_8, ti_9, ti_10, ti_11, ti_12, ti_19, ti_20, ti_21, ti_44, ti_45, ti_48, ti_57, ti_59, ti_60, ti_98, ti_99, ti_100, ti_101, ti_103, ti_108, ti_110, ti_114, ti_127] at c136
                intro it202 em203
                have hI204 : I8 lg188 it202 := by rw [em203]; exact i8_u hI190 (ok8_0 (oq_55) (fun q => absurd q (by decide)))
                have hK205 : Kc (fun j => (55 ≤ j ∧ j < 450)) lg0 it0 lg188 it202 := by rw [em203]; exact kc_u (by first | omega | (dsimp only; omega)) hK192
                have e206 : (it202 55 3).toInt = (it189 55 3).toInt := by rw [em203]; exact congrArg Int32.toInt (u2_ne (by decide))
                have e208 : (it202 55 5).toInt = (it189 55 5).toInt := by rw [em203]; exact congrArg Int32.toInt (u2_ne (by decide))
                have F209 : SK lg188 it202 (vw8 lg0 it0 a1) x3.toNatClampNeg := by rw [em203]; exact sk_u F198 (by first | omega | (dsimp only; omega))
                have F210 : WK it202 (vw8 lg0 it0 a1) x3.toNatClampNeg := by rw [em203]; exact wk_u F199 (by first | omega | (dsimp only; omega))
                have F211 : RV lg188 it202 (58 + 18 * (x3 + 1).toNatClampNeg) (runA (vw8 lg0 it0 a1) x3.toNatClampNeg).2.2 := by rw [em203]; exact rv_u F200 (by first | omega | (dsimp only; omega))
                have T212 : abF (fv lg188 it202 (75 + 18 * (x3 + 1).toNatClampNeg)) = (some (runA (vw8 lg0 it0 a1) x3.toNatClampNeg).2.1) := by rw [em203, fv_ui (by omega)]; exact T201
                have T213 : abF (fv lg188 it202 438) = L := by rw [em203, fv_ui (by omega)]; exact hL
                have e214 : (it202 55 4).toInt = (2 : Int32).toInt := by rw [em203, u2_eq]
                subst hp
                exact ⟨⟨hI204, hK205⟩, ci_is hV hm (by omega) (cis_e hv59_1 (run_o hv59_1 (res_o ha194 c136)) (by decide) (by have z1 := cl32 (i := x3) (by omega); have z2 := cl32 (i := a2) (by omega); omega) (by have z1 := cl32 (i := x3) (by omega); omega) (by rw [em203, u2_eq]; exact ti_2) F209 F210)⟩
              · try simp only [Int32.lt_iff_toInt_lt, Int32.le_iff_toInt_le, ← Int32.toInt_inj, Int32.toInt_toInt64, ti_m14, ti_m13, ti_m12, ti_m11, ti_m10, ti_m9, ti_m6, ti_m5, ti_m4, ti_m3, ti_m2, ti_m1, ti_0, ti_1, ti_2, ti_3, ti_4, ti_5, ti_6, ti_7, ti_8, ti_9, ti_10, ti_11, ti_12, ti_19, ti_20, ti_21, ti_44, ti_45, ti_48, ti_57, ti_59, ti_60, ti_98, ti_99, ti_100, ti_101, ti_103, ti_108, ti_110, ti_114, ti_127] at c136
                obtain ⟨w, d, hw, hnx, hLd⟩ := res_d ha194 c123 c136
                have hVO := (run_vo hV x3.toNatClampNeg).1
                have hwp := nxt_pos hVO hnx
                have hww := nxt_w hVO hnx
                try have f215 : ((x3 + 1) : Int32).toInt = (x3).toInt + 1 := ad32 (a := (x3).toInt) (b := 1) (rfl) (ti_1) (by omega) (by omega)
                have hi216 : vp_in (x3 + 1) 21 := vp_of (by first | omega | ((try simp only [Int32.lt_iff_toInt_lt, Int32.le_iff_toInt_le, ← Int32.toInt_inj, Int32.toInt_toInt64, ti_m14, ti_m13, ti_m12, ti_m11, ti_m10, ti_m9, ti_m6, ti_m5, ti_m4, ti_m3, ti_m2, ti_m1, ti_0, ti_1, ti_2, ti_3, ti_4, ti_5, ti_6, ti_7, ti_8, ti_9, ti_10, ti_11, ti_12, ti_19, ti_20, ti_21, ti_44, ti_45, ti_48, ti_57, ti_59, ti_60, ti_98, ti_99, ti_100, ti_101, ti_103, ti_108, ti_110, ti_114, ti_127]); omega) | (split <;> omega)) (by first | omega | ((try simp only [Int32.lt_iff_toInt_lt, Int32.le_iff_toInt_le, ← Int32.toInt_inj, Int32.toInt_toInt64, ti_m14, ti_m13, ti_m12, ti_m11, ti_m10, ti_m9, ti_m6, ti_m5, ti_m4, ti_m3, ti_m2, ti_m1, ti_0, ti_1, ti_2, ti_3, ti_4, ti_5, ti_6, ti_7, ti_8, ti_9, ti_10, ti_11, ti_12, ti_19, ti_20, ti_21, ti_44, ti_45, ti_48, ti_57, ti_59, ti_60, ti_98, ti_99, ti_100, ti_101, ti_103, ti_108, ti_110, ti_114, ti_127]); omega) | (split <;> omega))
                refine ⟨hi216, ?_⟩
                have hz217 := vlt hi216
                refine ⟨_, f_X5_strike ((rst (vlt (hi153)))) ((rti (vlt (hi216)))) (v193) hI190 (F200.2.1) (_) (T201) (d) (by rw [hL, hLd]) (w) (by rw [F200.1]; exact hw) (by rw [F200.1]; exact hwp.1) (by rw [F200.1]; exact hwp.2.2) (by omega) (by omega) (by rw [show it189 (58 + 18 * (x3 + 1).toNatClampNeg) 4 = rE (runA (vw8 lg0 it0 a1) x3.toNatClampNeg).2.2 from congrArg rE F200.1]; exact hVO.2.2.2.2.1) (by rw [show it189 ((58 + 18 * (x3 + 1).toNatClampNeg) + 16) 0 = rA (runA (vw8 lg0 it0 a1) x3.toNatClampNeg).2.2 from congrArg rA F200.1]; exact hww.1) (by rw [show it189 ((58 + 18 * (x3 + 1).toNatClampNeg) + 16) 1 = rB (runA (vw8 lg0 it0 a1) x3.toNatClampNeg).2.2 from congrArg rB F200.1, F200.1]; exact hww.2), ?_⟩
                intro v223 lg218 it219 hq
                obtain ⟨⟨hI220, hK221⟩, ha224⟩ := hq
                have hK222 : Kc (fun j => (55 ≤ j ∧ j < 450)) lg0 it0 lg218 it219 := kc_t hK192 hK221 (fun j hj => by first | omega | exact False.elim hj | (dsimp only at hj ⊢; omega))
                try have e225 : (it219 55 3).toInt = (it189 55 3).toInt := congrArg (fun f => Int32.toInt (f 3)) (hK221 55 (by first | omega | (dsimp only; omega))).2
                try have e226 : (it219 55 4).toInt = (it189 55 4).toInt := congrArg (fun f => Int32.toInt (f 4)) (hK221 55 (by first | omega | (dsimp only; omega))).2
                try have e227 : (it219 55 5).toInt = (it189 55 5).toInt := congrArg (fun f => Int32.toInt (f 5)) (hK221 55 (by first | omega | (dsimp only; omega))).2
                have F228 : SK lg218 it219 (vw8 lg0 it0 a1) x3.toNatClampNeg := sk_k F198 hK221 (fun j hj => by first | omega | exact False.elim hj | (dsimp only at hj ⊢; omega))
                have F229 : WK it219 (vw8 lg0 it0 a1) x3.toNatClampNeg := wk_k F199 hK221 (fun j hj => by first | omega | exact False.elim hj | (dsimp only at hj ⊢; omega))
                have T231 : abF (fv lg218 it219 438) = L := by rw [fv_k hK221 (by first | omega | (dsimp only; omega))]; exact hL
                rw [F200.1] at ha224
                refine ⟨fun c158 => ?_, fun c158 => ?_⟩
                · try simp only [Int32.lt_iff_toInt_lt, Int32.le_iff_toInt_le, ← Int32.toInt_inj, Int32.toInt_toInt64, ti_m14, ti_m13, ti_m12, ti_m11, ti_m10, ti_m9, ti_m6, ti_m5, ti_m4, ti_m3, ti_m2, ti_m1, ti_0, ti_1, ti_2, ti_3, ti_4, ti_5, ti_6, ti_7, ti_8, ti_9, ti_10, ti_11, ti_12, ti_19, ti_20, ti_21, ti_44, ti_45, ti_48, ti_57, ti_59, ti_60, ti_98, ti_99, ti_100, ti_101, ti_103, ti_108, ti_110, ti_114, ti_127] at c158
                  obtain ⟨r, hst, hv2, hok2, hT2⟩ := (ha224.resolve_right (fun z => by rw [z.1] at c158; exact c158 rfl)).2
                  have F232 : RV lg218 it219 (58 + 18 * (x3 + 1).toNatClampNeg) r.2 := ⟨hv2, hok2, n6 hI220 (rst (by omega))⟩
                  have hi233 : vp_in x3 20 := vp_of (by first | omega | ((try simp only [Int32.lt_iff_toInt_lt, Int32.le_iff_toInt_le, ← Int32.toInt_inj, Int32.toInt_toInt64, ti_m14, ti_m13, ti_m12, ti_m11, ti_m10, ti_m9, ti_m6, ti_m5, ti_m4, ti_m3, ti_m2, ti_m1, ti_0, ti_1, ti_2, ti_3, ti_4, ti_5, ti_6, ti_7, ti_8, ti_9, ti_10, ti_11, ti_12, ti_19, ti_20, ti_21, ti_44, ti_45, ti_48, ti_57, ti_59, ti_60, ti_98, ti_99, ti_100, ti_101, ti_103, ti_108, ti_110, ti_114, ti_127]); omega) | (split <;> omega)) (by first | omega | ((try simp only [Int32.lt_iff_toInt_lt, Int32.le_iff_toInt_le, ← Int32.toInt_inj, Int32.toInt_toInt64, ti_m14, ti_m13, ti_m12, ti_m11, ti_m10, ti_m9, ti_m6, ti_m5, ti_m4, ti_m3, ti_m2, ti_m1, ti_0, ti_1, ti_2, ti_3, ti_4, ti_5, ti_6, ti_7, ti_8, ti_9, ti_10, ti_11, ti_12, ti_19, ti_20, ti_21, ti_44, ti_45, ti_48, ti_57, ti_59, ti_60, ti_98, ti_99, ti_100, ti_101, ti_103, ti_108, ti_110, ti_114, ti_127]); omega) | (split <;> omega))
                  refine ⟨hi233, ?_⟩
                  have hz234 := vlt hi233
                  intro it235 em236
                  have hI237 : I8 lg218 it235 := by rw [em236]; exact i8_u hI220 (ok8_a (oq_436) (by decide))
                  have hK238 : Kc (fun j => (55 ≤ j ∧ j < 450)) lg0 it0 lg218 it235 := by rw [em236]; exact kc_u (by first | omega | (dsimp only; omega)) hK222
                  have e239 : (it235 55 3).toInt = (it219 55 3).toInt := by rw [em236]; exact congrArg Int32.toInt (congrFun (u2_row (by decide)) 3)
                  have e240 : (it235 55 4).toInt = (it219 55 4).toInt := by rw [em236]; exact congrArg Int32.toInt (congrFun (u2_row (by decide)) 4)
                  have e241 : (it235 55 5).toInt = (it219 55 5).toInt := by rw [em236]; exact congrArg Int32.toInt (congrFun (u2_row (by decide)) 5)
                  have F242 : SK lg218 it235 (vw8 lg0 it0 a1) x3.toNatClampNeg := by rw [em236]; exact sk_u F228 (by first | omega | (dsimp only; omega))
                  have F243 : RV lg218 it235 (58 + 18 * (x3 + 1).toNatClampNeg) r.2 := by rw [em236]; exact rv_u F232 (by first | omega | (dsimp only; omega))
                  have F244 : WK it235 (vw8 lg0 it0 a1) (x3.toNatClampNeg + 1) := wk_s F229 em236 (whr_w hnx hw)
                  have T245 : abF (fv lg218 it235 438) = L := by rw [em236, fv_ui (by omega)]; exact T231
                  have T246 : abF (fv lg218 it235 (75 + 18 * (x3 + 1).toNatClampNeg)) = (some r.1) := by rw [em236, fv_ui (by omega)]; exact hT2
                  try have f247 : ((x3 + 1) : Int32).toInt = (x3).toInt + 1 := ad32 (a := (x3).toInt) (b := 1) (rfl) (ti_1) (by omega) (by omega)
                  intro it248 em249
                  have hI250 : I8 lg218 it248 := by rw [em249]; exact i8_u hI237 (ok8_0 (oq_55) (fun _ => by (try simp only [Int32.lt_iff_toInt_lt, Int32.le_iff_toInt_le, ← Int32.toInt_inj, Int32.toInt_toInt64, ti_m14, ti_m13, ti_m12, ti_m11, ti_m10, ti_m9, ti_m6, ti_m5, ti_m4, ti_m3, ti_m2, ti_m1, ti_0, ti_1, ti_2, ti_3, ti_4, ti_5, ti_6, ti_7, ti_8, ti_9, ti_10, ti_11, ti_12, ti_19, ti_20, ti_21, ti_44, ti_45, ti_48, ti_57, ti_59, ti_60, ti_98, ti_99, ti_100, ti_101, ti_103, ti_108, ti_110, ti_114, ti_127]); omega))
                  have hK251 : Kc (fun j => (55 ≤ j ∧ j < 450)) lg0 it0 lg218 it248 := by rw [em249]; exact kc_u (by first | omega | (dsimp only; omega)) hK238
                  have e253 : (it248 55 4).toInt = (it235 55 4).toInt := by rw [em249]; exact congrArg Int32.toInt (u2_ne (by decide))
                  have e254 : (it248 55 5).toInt = (it235 55 5).toInt := by rw [em249]; exact congrArg Int32.toInt (u2_ne (by decide))
                  have F255 : SK lg218 it248 (vw8 lg0 it0 a1) x3.toNatClampNeg := by rw [em249]; exact sk_u F242 (by first | omega | (dsimp only; omega))
                  have F256 : RV lg218 it248 (58 + 18 * (x3 + 1).toNatClampNeg) r.2 := by rw [em249]; exact rv_u F243 (by first | omega | (dsimp only; omega))
                  have F257 : WK it248 (vw8 lg0 it0 a1) (x3.toNatClampNeg + 1) := by rw [em249]; exact wk_u F244 (by first | omega | (dsimp only; omega))
                  have T258 : abF (fv lg218 it248 438) = L := by rw [em249, fv_ui (by omega)]; exact T245
                  have T259 : abF (fv lg218 it248 (75 + 18 * (x3 + 1).toNatClampNeg)) = (some r.1) := by rw [em249, fv_ui (by omega)]; exact T246
                  have e260 : (it248 55 3).toInt = ((x3 + 1) : Int32).toInt := by rw [em249, u2_eq]
                  try have f261 : ((x3 + 1) : Int32).toInt = (x3).toInt + 1 := ad32 (a := (x3).toInt) (b := 1) (rfl) (ti_1) (by omega) (by omega)
                  exact ih59 ((x3 + 1)) _ _ hI250 hK251 ⟨⟨by omega, by omega⟩, by rw [hk1, (run_g hv59_1 hnx hst)], ⟨by rw [em249, u2_eq], by omega, by omega⟩, by rw [hk1]; exact sk_s F255 (by rw [(run_g hv59_1 hnx hst), ← hk1]; exact F256) (by rw [(run_g hv59_1 hnx hst), ← hk1]; exact T259), by rw [hk1]; exact F257⟩ (by omega)
                · try simp only [Int32.lt_iff_toInt_lt, Int32.le_iff_toInt_le, ← Int32.toInt_inj, Int32.toInt_toInt64, ti_m14, ti_m13, ti_m12, ti_m11, ti_m10, ti_m9, ti_m6, ti_m5, ti_m4, ti_m3, ti_m2, ti_m1, ti_0, ti_1, ti_2, ti_3, ti_4, ti_5, ti_6, ti_7, ti_8, ti_9, ti_10, ti_11, ti_12, ti_19, ti_20, ti_21, ti_44, ti_45, ti_48, ti_57, ti_59, ti_60, ti_98, ti_99, ti_100, ti_101, ti_103, ti_108, ti_110, ti_114, ti_127] at c158
                  have hst := (ha224.resolve_left (fun z => by rw [z.1] at c158; exact absurd c158 (by decide))).2
                  intro it262 em263
                  have hI264 : I8 lg218 it262 := by rw [em263]; exact i8_u hI220 (ok8_0 (oq_55) (fun q => absurd q (by decide)))
                  have hK265 : Kc (fun j => (55 ≤ j ∧ j < 450)) lg0 it0 lg218 it262 := by rw [em263]; exact kc_u (by first | omega | (dsimp only; omega)) hK222
                  have e266 : (it262 55 3).toInt = (it219 55 3).toInt := by rw [em263]; exact congrArg Int32.toInt (u2_ne (by decide))
                  have e268 : (it262 55 5).toInt = (it219 55 5).toInt := by rw [em263]; exact congrArg Int32.toInt (u2_ne (by decide))
                  have F269 : SK lg218 it262 (vw8 lg0 it0 a1) x3.toNatClampNeg := by rw [em263]; exact sk_u F228 (by first | omega | (dsimp only; omega))
                  have F270 : WK it262 (vw8 lg0 it0 a1) x3.toNatClampNeg := by rw [em263]; exact wk_u F229 (by first | omega | (dsimp only; omega))
                  have T271 : abF (fv lg218 it262 438) = L := by rw [em263, fv_ui (by omega)]; exact T231
                  have e272 : (it262 55 4).toInt = (2 : Int32).toInt := by rw [em263, u2_eq]
                  subst hp
                  exact ⟨⟨hI264, hK265⟩, ci_is hV hm (by omega) (cis_e hv59_1 (run_d hv59_1 hnx hst) (by decide) (by have z1 := cl32 (i := x3) (by omega); have z2 := cl32 (i := a2) (by omega); omega) (by have z1 := cl32 (i := x3) (by omega); omega) (by rw [em263, u2_eq]; exact ti_2) F269 F270)⟩
            · try simp only [Int32.lt_iff_toInt_lt, Int32.le_iff_toInt_le, ← Int32.toInt_inj, Int32.toInt_toInt64, ti_m14, ti_m13, ti_m12, ti_m11, ti_m10, ti_m9, ti_m6, ti_m5, ti_m4, ti_m3, ti_m2, ti_m1, ti_0, ti_1, ti_2, ti_3, ti_4, ti_5, ti_6, ti_7, ti_8, ti_9, ti_10, ti_11, ti_12, ti_19, ti_20, ti_21, ti_44, ti_45, ti_48, ti_57, ti_59, ti_60, ti_98, ti_99, ti_100, ti_101, ti_103, ti_108, ti_110, ti_114, ti_127] at c123
              intro it273 em274
              have hI275 : I8 lg188 it273 := by rw [em274]; exact i8_u hI190 (ok8_0 (oq_55) (fun q => absurd q (by decide)))
              have hK276 : Kc (fun j => (55 ≤ j ∧ j < 450)) lg0 it0 lg188 it273 := by rw [em274]; exact kc_u (by first | omega | (dsimp only; omega)) hK192
              have e277 : (it273 55 3).toInt = (it189 55 3).toInt := by rw [em274]; exact congrArg Int32.toInt (u2_ne (by decide))
              have e279 : (it273 55 5).toInt = (it189 55 5).toInt := by rw [em274]; exact congrArg Int32.toInt (u2_ne (by decide))
              have F280 : SK lg188 it273 (vw8 lg0 it0 a1) x3.toNatClampNeg := by rw [em274]; exact sk_u F198 (by first | omega | (dsimp only; omega))
              have F281 : WK it273 (vw8 lg0 it0 a1) x3.toNatClampNeg := by rw [em274]; exact wk_u F199 (by first | omega | (dsimp only; omega))
              have F282 : RV lg188 it273 (58 + 18 * (x3 + 1).toNatClampNeg) (runA (vw8 lg0 it0 a1) x3.toNatClampNeg).2.2 := by rw [em274]; exact rv_u F200 (by first | omega | (dsimp only; omega))
              have T283 : abF (fv lg188 it273 (75 + 18 * (x3 + 1).toNatClampNeg)) = (some (runA (vw8 lg0 it0 a1) x3.toNatClampNeg).2.1) := by rw [em274, fv_ui (by omega)]; exact T201
              have T284 : abF (fv lg188 it273 438) = L := by rw [em274, fv_ui (by omega)]; exact hL
              have e285 : (it273 55 4).toInt = (0 : Int32).toInt := by rw [em274, u2_eq]
              subst hp
              exact ⟨⟨hI275, hK276⟩, ci_is hV hm (by omega) (cis_e hv59_1 (run_e hv59_1 (res_e ha194 c123)) (by decide) (by have z1 := cl32 (i := x3) (by omega); have z2 := cl32 (i := a2) (by omega); omega) (by have z1 := cl32 (i := x3) (by omega); omega) (by rw [em274, u2_eq]; exact ti_0) F280 F281)⟩
    have t286 := ti_0
    exact ⟨_, lp59 ((21 - ((0 : Int32)).toInt).toNat + 1) ((0 : Int32)) _ _ hI139 hK140 ⟨⟨by omega, by omega⟩, rfl, ⟨by rw [em138, u2_ne (by decide), em127, u2_eq], by rw [em138, u2_eq]; exact ti_1, by omega⟩, fun j hj => by have z : j = 0 := Nat.le_zero.mp hj; subst z; exact ⟨F145, T146⟩, fun j hj => absurd hj (Nat.not_lt_zero _)⟩ (Nat.lt_succ_self _)⟩
  unfold w_X0_work
  have hk2 := cl32 hm.1
  refine ⟨fun c5 => ?_, fun c5 => ?_⟩
  · try simp only [Int32.lt_iff_toInt_lt, Int32.le_iff_toInt_le, ← Int32.toInt_inj, Int32.toInt_toInt64, ti_m14, ti_m13, ti_m12, ti_m11, ti_m10, ti_m9, ti_m6, ti_m5, ti_m4, ti_m3, ti_m2, ti_m1, ti_0, ti_1, ti_2, ti_3, ti_4, ti_5, ti_6, ti_7, ti_8, ti_9, ti_10, ti_11, ti_12, ti_19, ti_20, ti_21, ti_44, ti_45, ti_48, ti_57, ti_59, ti_60, ti_98, ti_99, ti_100, ti_101, ti_103, ti_108, ti_110, ti_114, ti_127] at c5
    exact bl22  _ _ hI hKr (by first | exact ⟨rfl, rfl⟩ | exact ⟨(kf_e (by assumption)).2, (kf_e (by assumption)).1⟩)
  · try simp only [Int32.lt_iff_toInt_lt, Int32.le_iff_toInt_le, ← Int32.toInt_inj, Int32.toInt_toInt64, ti_m14, ti_m13, ti_m12, ti_m11, ti_m10, ti_m9, ti_m6, ti_m5, ti_m4, ti_m3, ti_m2, ti_m1, ti_0, ti_1, ti_2, ti_3, ti_4, ti_5, ti_6, ti_7, ti_8, ti_9, ti_10, ti_11, ti_12, ti_19, ti_20, ti_21, ti_44, ti_45, ti_48, ti_57, ti_59, ti_60, ti_98, ti_99, ti_100, ti_101, ti_103, ti_108, ti_110, ti_114, ti_127] at c5
    refine ⟨_, f_X3_isLike (in_rb_58) (ha1)  hI , ?_⟩
    intro v292 lg287 it288 hq
    obtain ⟨⟨hI289, hK290⟩, ha293⟩ := hq
    have hK291 : Kc (fun j => (55 ≤ j ∧ j < 450)) lg0 it0 lg287 it288 := kc_t hKr hK290 (fun j hj => by first | omega | exact False.elim hj | (dsimp only at hj ⊢; omega))
    try have e294 : (it288 55 3).toInt = (it0 55 3).toInt := congrArg (fun f => Int32.toInt (f 3)) (hK290 55 (by first | omega | (dsimp only; omega))).2
    try have e295 : (it288 55 4).toInt = (it0 55 4).toInt := congrArg (fun f => Int32.toInt (f 4)) (hK290 55 (by first | omega | (dsimp only; omega))).2
    try have e296 : (it288 55 5).toInt = (it0 55 5).toInt := congrArg (fun f => Int32.toInt (f 5)) (hK290 55 (by first | omega | (dsimp only; omega))).2
    refine ⟨fun c18 => ?_, fun c18 => ?_⟩
    · try simp only [Int32.lt_iff_toInt_lt, Int32.le_iff_toInt_le, ← Int32.toInt_inj, Int32.toInt_toInt64, ti_m14, ti_m13, ti_m12, ti_m11, ti_m10, ti_m9, ti_m6, ti_m5, ti_m4, ti_m3, ti_m2, ti_m1, ti_0, ti_1, ti_2, ti_3, ti_4, ti_5, ti_6, ti_7, ti_8, ti_9, ti_10, ti_11, ti_12, ti_19, ti_20, ti_21, ti_44, ti_45, ti_48, ti_57, ti_59, ti_60, ti_98, ti_99, ti_100, ti_101, ti_103, ti_108, ti_110, ti_114, ti_127] at c18
      exact bl22  _ _ hI289 hK291 (by first | exact ⟨rfl, rfl⟩ | exact ⟨(kf_e (by assumption)).2, (kf_e (by assumption)).1⟩)
    · try simp only [Int32.lt_iff_toInt_lt, Int32.le_iff_toInt_le, ← Int32.toInt_inj, Int32.toInt_toInt64, ti_m14, ti_m13, ti_m12, ti_m11, ti_m10, ti_m9, ti_m6, ti_m5, ti_m4, ti_m3, ti_m2, ti_m1, ti_0, ti_1, ti_2, ti_3, ti_4, ti_5, ti_6, ti_7, ti_8, ti_9, ti_10, ti_11, ti_12, ti_19, ti_20, ti_21, ti_44, ti_45, ti_48, ti_57, ti_59, ti_60, ti_98, ti_99, ti_100, ti_101, ti_103, ti_108, ti_110, ti_114, ti_127] at c18
      subst hp
      exact ⟨⟨hI289, hK291⟩, work_l hm hc (show Kc (fun j => False) lg0 it0 _ _ from hK290) c5 (ha293.2 (by rcases ha293.1 with z | z; rw [z] at c18; exact absurd rfl c18; exact z))⟩
