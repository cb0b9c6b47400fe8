/-! the text, done by the second side -/
def kdv (k : Int) : Prop := k = 98 ∨ k = 101 ∨ k = 103 ∨ k = 108 ∨ k = 114
theorem one_k {k : Int} {p : Nat} {X : Option (Int × Nat)} {c : Cl} (h : (one k p X).2 = some c) : c.1 = k := by
  unfold one at h
  split at h
  · cases h
  · injection h with h; rw [← h]
theorem pcl_k {t : Tx} {p : Nat} {c : Cl} (h : (pcl t p).2 = some c) : kdv c.1 := by
  unfold pcl at h
  unfold kdv
  split at h
  · split at h
    · cases h
    · injection h with h; rw [← h]; exact Or.inl rfl
  · split at h
    · rw [one_k h]; omega
    · split at h
      · rw [one_k h]; omega
      · split at h
        · rw [one_k h]; omega
        · cases h
def bN (v : Int32) : Prop := v.toInt = -5 ∨ (-4 ≤ v.toInt ∧ v.toInt ≤ -1) ∨ 0 ≤ v.toInt
theorem nn_of (n : Nat) (h : n ≤ 400) : 0 ≤ (Int32.ofNat n).toInt := by
  show 0 ≤ (nI n).toInt
  rw [nI_toInt (by omega)]; omega
theorem dn_sp {V : Rlv} {a : Int32} (h : VO V) : dn (spA V a).1 = if (spA V a).1.toInt < 0 then 0 else 1 := by
  unfold spA dn
  split
  · rw [if_neg, if_neg]
    · have := h.2.2.2.2.1.1; show ¬ (rE V).toInt < 0; omega
    · have := h.2.2.2.2.1.1; show ¬ (-4 ≤ (rE V).toInt ∧ (rE V).toInt ≤ -1); omega
  · rfl
theorem dn_go {V : Rlv} {a : Int32} : dn (goA V a).1 = if (goA V a).1.toInt < 0 then 0 else 1 := by
  unfold goA dn
  split
  · rfl
  · rename_i c
    have h := nn_of (min a.toNatClampNeg (cnt V 20)) (by have := cnt_le V 20; omega)
    generalize Int32.ofNat (min a.toNatClampNeg (cnt V 20)) = z at h
    rw [if_neg, if_neg]
    · show ¬ z.toInt < 0; omega
    · show ¬ (-4 ≤ z.toInt ∧ z.toInt ≤ -1); omega
theorem dn_bm {V : Rlv} {p m s : Int32} (h : VO V) : dn (bmA V p m s).1 = if (bmA V p m s).1.toInt < 0 then 0 else 1 := by
  have hN := nn_of (rN V) (by have := h.1; omega)
  unfold bmA dn
  split
  · rfl
  · split
    · rfl
    · split
      · rfl
      · generalize Int32.ofNat (rN V) = z at hN
        rw [if_neg, if_neg]
        · show ¬ z.toInt < 0; omega
        · show ¬ (-4 ≤ z.toInt ∧ z.toInt ≤ -1); omega
theorem dn_wt {x : Int32} (h : -1 ≤ x.toInt ∧ x.toInt ≤ 4) : dn (wTold x) = if 0 ≤ (wTold x).toInt ∨ (wTold x).toInt = -5 then 1 else 0 := by
  by_cases c : x.toInt = -1
  · rw [wT_n c]; decide
  · rw [wT_p c h.1]
    unfold dn
    rw [if_neg (by omega), if_pos (by omega)]
theorem dn_wl {V : Rlv} {s q : Int32} (h : VO V) : dn (wlA V s q).1 = if 0 ≤ (wlA V s q).1.toInt ∨ (wlA V s q).1.toInt = -5 then 1 else 0 := by
  unfold wlA
  split
  · rfl
  · split
    · rfl
    · split
      · rfl
      · split
        · exact dn_wt h.2.2.2.2.2.1
        · exact dn_wt h.2.2.2.2.2.2
def D9s (j : Nat) : Prop := j = 490 ∨ j = 491 ∨ j = 492 ∨ j = 493 ∨ j = 494 ∨ j = 501 ∨ j = 502 ∨ j = 503 ∨ j = 504 ∨ j = 505 ∨ j = 506 ∨ j = 507 ∨ j = 508 ∨ j = 509 ∨ j = 510 ∨ j = 511 ∨ j = 512
def D9f (k : Nat) : Prop := k = 0 ∨ k = 1 ∨ k = 2 ∨ k = 3 ∨ k = 18 ∨ k = 19 ∨ k = 20 ∨ (28 ≤ k ∧ k ≤ 43)
theorem f_X9_isDone (a1 : Int32) {lg0 : LGt} {it0 : ITt} (hI : I9 lg0 it0) (ha : 0 ≤ a1.toInt ∧ a1.toInt < 12) (hVO : VO (vw9 lg0 it0)) (c : Cl) (h1 : (it0 514 a1.toNatClampNeg).toInt = c.1) (h2 : (it0 515 a1.toNatClampNeg).toInt = c.2.1) (h3 : c.1 = 98 → (it0 516 a1.toNatClampNeg).toInt = c.2.2.1 ∧ (it0 517 a1.toNatClampNeg).toInt = c.2.2.2) (hk : kdv c.1) : w_X9_isDone a1 (fun (v : Int32) (lg' : LGt) (it' : ITt) => (I9 lg' it' ∧ Kd D9s D9f lg0 it0 lg' it') ∧ ((v = 0 ∨ v = 1) ∧ v.toInt = dn (pf (vw9 lg0 it0) c).1) ∧ vw9 lg' it' = (pf (vw9 lg0 it0) c).2) lg0 it0 := by
  have hv : vp_in a1 12 := vp_of ha.1 (by omega)
  have t108 : (108 : Int32).toInt = 108 := by decide
  generalize hi : a1.toNatClampNeg = i at h1 h2 h3
  have ep := pf_c (V := vw9 lg0 it0) h1 h2 h3
  rw [← ep]
  unfold kdv at hk
  rw [← h1] at hk
  have wall : ∀ s0 : Int32, ¬ (it0 514 i).toInt = 98 → ¬ (it0 514 i).toInt = 101 → pfV (vw9 lg0 it0) (it0 514 i) (it0 515 i) (it0 516 i) (it0 517 i) = wlA (vw9 lg0 it0) s0 (it0 515 i) → w_X9_isDone_b126 a1 (fun (v : Int32) (lg' : LGt) (it' : ITt) => (I9 lg' it' ∧ Kd D9s D9f lg0 it0 lg' it') ∧ ((v = 0 ∨ v = 1) ∧ v.toInt = dn (pfV (vw9 lg0 it0) (it0 514 i) (it0 515 i) (it0 516 i) (it0 517 i)).1) ∧ vw9 lg' it' = (pfV (vw9 lg0 it0) (it0 514 i) (it0 515 i) (it0 516 i) (it0 517 i)).2) s0 lg0 it0 := by
    intro s0 n1 n2 e
    rw [e]
    unfold w_X9_isDone_b126
    refine ⟨hv, _, f_X9_wall s0 (it0 515 a1.toNatClampNeg) hI hVO, ?_⟩
    rw [hi]
    rintro v lg' it' ⟨⟨J, K⟩, ev, ew⟩
    have K2 : Kd D9s D9f lg0 it0 lg' it' := kd_t kd_r K (fun j hj => hj.elim) (fun k hk => by unfold D9f; omega)
    have ed := dn_wl (V := vw9 lg0 it0) (s := s0) (q := it0 515 i) hVO
    rw [← ev] at ed ⊢
    have tm5 : (-5 : Int32).toInt = -5 := by decide
    rw [Int32.le_iff_toInt_le, ti_0, ← Int32.toInt_inj, tm5]
    refine ⟨fun c => ⟨⟨J, K2⟩, ⟨Or.inr rfl, ?_⟩, ew⟩, fun c => ⟨fun c2 => ⟨⟨J, K2⟩, ⟨Or.inl rfl, ?_⟩, ew⟩, fun c2 => ⟨⟨J, K2⟩, ⟨Or.inr rfl, ?_⟩, ew⟩⟩⟩
    · rw [ed, if_pos (Or.inl c)]; rfl
    · rw [ed, if_neg (fun q => q.elim c c2)]; rfl
    · rw [ed, if_pos (Or.inr c2)]; rfl
  unfold w_X9_isDone
  rw [hi]
  refine ⟨hv, fun c1 => ⟨hv, hv, hv, ?_⟩, fun c1 => ⟨fun c2 => ⟨hv, ?_⟩, fun c2 => ⟨fun c3 => ⟨hv, ?_⟩, fun c3 => ⟨hv, fun c4 => ?_, fun c4 => ?_⟩⟩⟩⟩
  · have e : pfV (vw9 lg0 it0) (it0 514 i) (it0 515 i) (it0 516 i) (it0 517 i) = bmA (vw9 lg0 it0) (it0 515 i) (it0 516 i) (it0 517 i) := by unfold pfV; rw [if_pos c1]
    rw [e]
    refine ⟨_, f_X9_bumper _ _ _ hI hVO, ?_⟩
    rintro v lg' it' ⟨⟨J, K⟩, ev, ew⟩
    have K2 : Kd D9s D9f lg0 it0 lg' it' := kd_t kd_r K (fun j hj => by unfold D9s; omega) (fun k hk => by unfold D9f; omega)
    have ed := dn_bm (V := vw9 lg0 it0) (p := it0 515 i) (m := it0 516 i) (s := it0 517 i) hVO
    rw [← ev] at ed ⊢
    rw [Int32.lt_iff_toInt_lt, ti_0]
    refine ⟨fun c => ⟨⟨J, K2⟩, ⟨Or.inl rfl, ?_⟩, ew⟩, fun c => ⟨⟨J, K2⟩, ⟨Or.inr rfl, ?_⟩, ew⟩⟩
    · rw [ed, if_pos c]; rfl
    · rw [ed, if_neg c]; rfl
  · have e : pfV (vw9 lg0 it0) (it0 514 i) (it0 515 i) (it0 516 i) (it0 517 i) = spA (vw9 lg0 it0) (it0 515 i) := by unfold pfV; rw [if_neg c1, if_pos c2]
    rw [e]
    refine ⟨_, f_X9_spring _ hI, ?_⟩
    rintro v lg' it' ⟨⟨J, K⟩, ev, ew⟩
    have K2 : Kd D9s D9f lg0 it0 lg' it' := kd_t kd_r K (fun j hj => hj.elim) (fun k hk => by unfold D9f; omega)
    have ed := dn_sp (V := vw9 lg0 it0) (a := it0 515 i) hVO
    rw [← ev] at ed ⊢
    rw [Int32.lt_iff_toInt_lt, ti_0]
    refine ⟨fun c => ⟨⟨J, K2⟩, ⟨Or.inl rfl, ?_⟩, ew⟩, fun c => ⟨⟨J, K2⟩, ⟨Or.inr rfl, ?_⟩, ew⟩⟩
    · rw [ed, if_pos c]; rfl
    · rw [ed, if_neg c]; rfl
  · have e : pfV (vw9 lg0 it0) (it0 514 i) (it0 515 i) (it0 516 i) (it0 517 i) = goA (vw9 lg0 it0) (it0 515 i) := by unfold pfV; rw [if_neg c1, if_neg c2, if_neg (by omega), if_neg (by omega)]
    rw [e]
    refine ⟨_, f_X9_go _ hI hVO, ?_⟩
    rintro v lg' it' ⟨⟨J, K⟩, ev, ew⟩
    have K2 : Kd D9s D9f lg0 it0 lg' it' := kd_t kd_r K (fun j hj => by unfold D9s; omega) (fun k hk => by unfold D9f; omega)
    have ed := dn_go (V := vw9 lg0 it0) (a := it0 515 i)
    rw [← ev] at ed ⊢
    rw [Int32.lt_iff_toInt_lt, ti_0]
    refine ⟨fun c => ⟨⟨J, K2⟩, ⟨Or.inl rfl, ?_⟩, ew⟩, fun c => ⟨⟨J, K2⟩, ⟨Or.inr rfl, ?_⟩, ew⟩⟩
    · rw [ed, if_pos c]; rfl
    · rw [ed, if_neg c]; rfl
  · refine wall 1 c1 c2 ?_
    have n108 : ¬ (it0 514 i).toInt = 108 := fun q => c4 (Int32.toInt_inj.mp (by rw [q]; rfl))
    unfold pfV; rw [if_neg c1, if_neg c2, if_neg n108, if_pos (by omega)]
  · refine wall 0 c1 c2 ?_
    unfold pfV; rw [if_neg c1, if_neg c2, if_pos (by rw [c4]; rfl)]
/-- the clauses below n are held -/
def CD9 (it : ITt) (t : Tx) (n : Nat) : Prop := ∀ j, j < n → ((it 514 j).toInt = (cdat t j).1 ∧ (it 515 j).toInt = (cdat t j).2.1 ∧ ((cdat t j).1 = 98 → (it 516 j).toInt = (cdat t j).2.2.1 ∧ (it 517 j).toInt = (cdat t j).2.2.2)) ∧ kdv (cdat t j).1
theorem cd9_t {it it' : ITt} {t : Tx} {n : Nat} (h : CD9 it t n) (hT : TF9 n it it') : CD9 it' t n := by
  intro j hj
  obtain ⟨a, b, c, d⟩ := hT.2.1 j (by omega)
  rw [a, b, c, d]
  exact h j hj
theorem cd9_s {it : ITt} {t : Tx} {n : Nat} {c : Cl} (h : CD9 it t n) (e : (pcl t (cpos t n)).2 = some c) (h1 : (it 514 n).toInt = c.1) (h2 : (it 515 n).toInt = c.2.1) (h3 : c.1 = 98 → (it 516 n).toInt = c.2.2.1 ∧ (it 517 n).toInt = c.2.2.2) : CD9 it t (n + 1) := by
  intro j hj
  by_cases z : j = n
  · subst z
    have ec : cdat t j = c := by unfold cdat; rw [e]; rfl
    rw [ec]
    exact ⟨⟨h1, h2, h3⟩, pcl_k e⟩
  · exact h j (by omega)
def TG9 (it0 it : ITt) : Prop := (∀ k, k ≠ 51 → it 489 k = it0 489 k) ∧ ∀ j, ¬ (j = 489 ∨ (514 ≤ j ∧ j ≤ 517)) → it j = it0 j
theorem g9_t {i : Nat} {a b c : ITt} (h : TG9 a b) (g : TF9 i b c) : TG9 a c := ⟨fun k hk => (g.1 k hk).trans (h.1 k hk), fun j hj => (g.2.2 j hj).trans (h.2 j hj)⟩
theorem g9_tx {a b : ITt} (h : TG9 a b) : tx9 b = tx9 a := by unfold tx9; rw [h.1 50 (by decide), h.2 513 (by decide)]
/-- the scan has come to its end -/
def EX9 (t : Tx) (it : ITt) (x1 x3 : Int32) : Prop := (x3 = 0 ∧ (psc t 12 0 0).2 = none ∧ (it 489 51).toInt = (psc t 12 0 0).1) ∨ (x3 = 1 ∧ (((it 489 51).toInt = (it 489 50).toInt ∧ ∃ m : Nat, (psc t 12 0 0).2 = some m ∧ m ≤ 12 ∧ x1.toInt = m ∧ CD9 it t m) ∨ (¬ (it 489 51).toInt = (it 489 50).toInt ∧ (psc t 12 0 0).2 = none ∧ (it 489 51).toInt = (psc t 12 0 0).1)))
def ST9 (t : Tx) (it : ITt) (x1 : Int32) (n : Nat) : Prop := x1.toInt = n ∧ n < 12 ∧ (it 489 51).toInt = cpos t n ∧ CD9 it t n ∧ psc t 12 0 0 = psc t (12 - n) n (cpos t n)
def R9s (j : Nat) : Prop := D9s j ∨ (514 ≤ j ∧ j ≤ 517)
def R9f (k : Nat) : Prop := D9f k ∨ k = 50 ∨ k = 51
theorem f_X9_read {lg0 : LGt} {it0 : ITt} (hI : I9 lg0 it0) (hVO : VO (vw9 lg0 it0)) : w_X9_read (fun (v : Int32) (lg' : LGt) (it' : ITt) => (I9 lg' it' ∧ Kd R9s R9f lg0 it0 lg' it') ∧ (v.toInt = (rdA (tx9 it0) (vw9 lg0 it0)).1 ∧ vw9 lg' it' = (rdA (tx9 it0) (vw9 lg0 it0)).2) ∧ it' 489 50 = 0) lg0 it0 := by
  generalize hq : (fun (v : Int32) (lg' : LGt) (it' : ITt) => (I9 lg' it' ∧ Kd R9s R9f lg0 it0 lg' it') ∧ (v.toInt = (rdA (tx9 it0) (vw9 lg0 it0)).1 ∧ vw9 lg' it' = (rdA (tx9 it0) (vw9 lg0 it0)).2) ∧ it' 489 50 = 0) = Pz
  generalize hV : vw9 lg0 it0 = V at hVO
  have hL := (i9_5 hI).1
  have t59 : (59 : Int32).toInt = 59 := by decide
  -- behind the scan
  have exit : ∀ (x1 x3 : Int32) (it : ITt), I9 lg0 it → TG9 it0 it → EX9 (tx9 it0) it x1 x3 → w_X9_read_b65 Pz x1 x3 lg0 it := by
    intro x1 x3 it J G E
    have b := i9_5 J
    have len : ∀ it33 : ITt, it33 = u2 it 489 50 0 → I9 lg0 it33 ∧ Kd R9s R9f lg0 it0 lg0 it33 ∧ vw9 lg0 it33 = V ∧ it33 489 50 = 0 ∧ it33 489 51 = it 489 51 ∧ (∀ j, j ≠ 489 → it33 j = it j) := by
      intro it33 m33
      have K1 : Kd R9s R9f lg0 it0 lg0 it := ⟨fun j h1 h2 => ⟨rfl, G.2 j (by unfold R9s at h2; omega)⟩, fun k h1 => ⟨rfl, G.1 k (by unfold R9f at h1; omega)⟩⟩
      have K : Kd R9s R9f lg0 it0 lg0 it33 := by rw [m33]; exact kd_uf (by unfold R9f; omega) K1
      refine ⟨by rw [m33]; exact i9_u J (ok9_b (a := 0) (b := 100) rfl (by rw [ti_0]; omega)) (by decide) (fun _ => by decide), K, ?_, by rw [m33, u2_eq], by rw [m33, u2_ne (by decide)], fun j hj => by rw [m33, u2_row hj]⟩
      rw [m33, w9_fl (by decide), ← hV]
      refine w9_k (S := fun j => 514 ≤ j ∧ j ≤ 517) (F := fun k => k = 51) ⟨fun j h1 h2 => ⟨rfl, G.2 j (by omega)⟩, fun k h1 => ⟨rfl, G.1 k h1⟩⟩ (fun j hj => by omega) (fun k hk => by omega)
    have fail : (psc (tx9 it0) 12 0 0).2 = none → (it 489 51).toInt = (psc (tx9 it0) 12 0 0).1 → w_X9_read_b84 Pz x1 lg0 it := by
      intro e h7
      unfold w_X9_read_b84 w_X9_read_b85
      intro it33 m33
      obtain ⟨J33, K33, W33, z33, e51, _⟩ := len it33 m33
      have f : (-10 - it33 489 51).toInt = -10 - (it33 489 51).toInt := sb32 ti_m10 rfl (by rw [e51]; omega) (by rw [e51]; omega)
      have er : rdA (tx9 it0) V = (-10 - ((psc (tx9 it0) 12 0 0).1 : Int), V) := by unfold rdA; rw [e]
      refine ⟨fun c => absurd rfl c, fun _ => ?_⟩
      subst hq
      refine ⟨⟨J33, K33⟩, ⟨?_, ?_⟩, z33⟩
      · rw [hV, er, f, e51, h7]
      · rw [hV, er]; exact W33
    unfold w_X9_read_b65
    rcases E with ⟨rfl, e, h7⟩ | ⟨rfl, ⟨h7, m, e, hm, hx1, hcd⟩ | ⟨h7, e, h8⟩⟩
    · exact ⟨fun _ => fail e h7, fun c => absurd rfl c⟩
    case inr.inr =>
      exact ⟨fun c => absurd c (by decide), fun _ => ⟨fun _ => fail e h8, fun c => absurd (congrArg Int32.toInt c) h7⟩⟩
    refine ⟨fun c => absurd c (by decide), fun _ => ⟨fun c => absurd (Int32.toInt_inj.mp h7) c, fun _ => ?_⟩⟩
    unfold w_X9_read_b85
    intro it33 m33
    obtain ⟨J33, K33, W33, z33, e51, r33⟩ := len it33 m33
    have er : rdA (tx9 it0) V = (((pfs (tx9 it0) V m).2 : Int), (pfs (tx9 it0) V m).1) := by unfold rdA; rw [e]
    have cd33 : CD9 it33 (tx9 it0) m := by
      intro j hj
      rw [r33 514 (by decide), r33 515 (by decide), r33 516 (by decide), r33 517 (by decide)]
      exact hcd j hj
    refine ⟨fun _ => ?_, fun c => absurd c (by decide)⟩
    have lp : ∀ (n : Nat) (y x : Int32) (lg : LGt) (itB : ITt) (j : Nat), I9 lg itB → Kd D9s D9f lg0 it33 lg itB → x.toInt = j → j ≤ m → y.toInt = (pfs (tx9 it0) V j).2 → vw9 lg itB = (pfs (tx9 it0) V j).1 → m - j < n → w_X9_read_b109 Pz n x1 y x lg itB := by
      intro n
      induction n with
      | zero => intro y x lg itB j _ _ _ _ _ _ hn; exact absurd hn (Nat.not_lt_zero _)
      | succ n ih =>
        intro y x lg itB j hJ hK hx hj hy hW hn
        have r (k : Nat) (h1 : 514 ≤ k) (h2 : k < 518) : itB k = it33 k := (hK.1 k (by omega) (by unfold D9s; omega)).2
        have hxj : x.toNatClampNeg = j := by have := cl32 (i := x) (by omega); omega
        have hpl := pfs_le (tx9 it0) V j
        unfold w_X9_read_b109
        rw [Int32.le_iff_toInt_le, hx1, hx]
        refine ⟨fun c => ?_, fun c => ?_⟩
        · obtain rfl : j = m := by omega
          subst hq
          refine ⟨⟨hJ, kd_t K33 hK (fun j hj => Or.inl hj) (fun k hk => Or.inl hk)⟩, ⟨?_, ?_⟩, ?_⟩
          · rw [hV, er]; exact hy
          · rw [hV, er]; exact hW
          · rw [(hK.2 50 (by unfold D9f; omega)).2]; exact z33
        obtain ⟨⟨d1, d2, d3⟩, d4⟩ := cd33 j (by omega)
        have pj := f_X9_isDone x hJ (by omega) (by rw [hW]; exact vo_pfs hVO j) (cdat (tx9 it0) j) (by rw [hxj, r 514 (by decide) (by decide)]; exact d1) (by rw [hxj, r 515 (by decide) (by decide)]; exact d2) (by rw [hxj, r 516 (by decide) (by decide), r 517 (by decide) (by decide)]; exact d3) d4
        rw [hW] at pj
        refine ⟨_, pj, ?_⟩
        intro v40 lg41 it42 hq3
        obtain ⟨⟨J42, K42⟩, ⟨hv01, ev⟩, W42⟩ := hq3
        have K42x := kd_t hK K42 (fun j hj => hj) (fun k hk => hk)
        have fx : (x + 1).toInt = x.toInt + 1 := ad32 rfl ti_1 (by omega) (by omega)
        have fy : (y + 1).toInt = y.toInt + 1 := ad32 rfl ti_1 (by omega) (by omega)
        have fy0 : (y + 0).toInt = y.toInt + 0 := ad32 rfl ti_0 (by omega) (by omega)
        have fxj : (x + 1).toInt = ((j + 1 : Nat) : Int) := by omega
        have hpn : (pfs (tx9 it0) V (j + 1)).2 = (pfs (tx9 it0) V j).2 + dn (pf (pfs (tx9 it0) V j).1 (cdat (tx9 it0) j)).1 := rfl
        refine ⟨fun c2 => ?_, fun c2 => ?_⟩
        · rw [c2, ti_0] at ev
          exact ih (y + 0) (x + 1) lg41 it42 (j + 1) J42 K42x fxj (by omega) (by rw [hpn, fy0, hy]; omega) W42 (by omega)
        · rw [hv01.resolve_left c2, ti_1] at ev
          exact ih (y + 1) (x + 1) lg41 it42 (j + 1) J42 K42x fxj (by omega) (by rw [hpn, fy, hy]; omega) W42 (by omega)
    exact ⟨_, lp (m + 1) 0 0 lg0 it33 0 J33 kd_r ti_0 (Nat.zero_le _) ti_0 W33 (by omega)⟩
  -- the scan
  have sc : ∀ (f : Nat) (x1 x2 x3 : Int32) (it : ITt), I9 lg0 it → (it 489 51).toInt ≤ (it 489 50).toInt → TG9 it0 it → ((x2 = 0 ∧ EX9 (tx9 it0) it x1 x3 ∧ 0 < f) ∨ (x2 = 1 ∧ x3 = 1 ∧ ∃ n, ST9 (tx9 it0) it x1 n ∧ 13 - n < f)) → w_X9_read_b11 Pz f x1 x2 x3 lg0 it := by
    intro f
    induction f with
    | zero =>
      intro x1 x2 x3 it _ _ _ h
      rcases h with ⟨_, _, h⟩ | ⟨_, _, n, _, h⟩
      · exact absurd h (Nat.not_lt_zero _)
      · exact absurd h (Nat.not_lt_zero _)
    | succ f ih =>
      intro x1 x2 x3 it J A G h
      unfold w_X9_read_b11
      rcases h with ⟨rfl, E, _⟩ | ⟨rfl, rfl, n, ⟨hx1, hn12, h7, hcd, hps⟩, hf⟩
      · exact ⟨fun _ => exit x1 x3 it J G E, fun c => absurd rfl c⟩
      refine ⟨fun c => absurd c (by decide), fun _ => ⟨fun c => absurd c (by decide), fun _ => ?_⟩⟩
      have htx := g9_tx G
      have hxn : x1.toNatClampNeg = n := by have := cl32 (i := x1) (by omega); omega
      obtain ⟨hs1, hs2⟩ := sub12 hn12
      have hf2 : 0 < f := by omega
      have hf3 : 13 - (n + 1) < f := by omega
      have fx : (x1 + 1).toInt = x1.toInt + 1 := ad32 rfl ti_1 (by omega) (by omega)
      have fxn : (x1 + 1).toInt = ((n + 1 : Nat) : Int) := by omega
      have t12 : (12 ≤ x1 + 1) ↔ n + 1 = 12 := by rw [Int32.le_iff_toInt_le, ti_12, fxn]; omega
      generalize 11 - n = g at hs1 hs2
      refine ⟨_, f_X9_clause x1 J A (by omega) _ h7, ?_⟩
      intro v8 lg9 it10 hq2
      obtain ⟨⟨⟨J10, A10⟩, rfl, T10⟩, h10, hc⟩ := hq2
      rw [htx] at h10 hc
      rw [hxn] at hc T10
      have G10 := g9_t G T10
      have l10 : (it10 489 50).toInt = ((tx9 it0).1 : Int) := by rw [G10.1 50 (by decide)]; exact (cl32 hL.1).symm
      refine ⟨fun c2 => ?_, fun c2 => ?_⟩
      · have e := (hc.resolve_left (fun y => by rw [y.1] at c2; exact absurd c2 (by decide))).2
        unfold w_X9_read_b35
        refine ⟨fun _ => ih _ _ _ it10 J10 A10 G10 (Or.inl ⟨rfl, Or.inl ⟨c2, ?_, ?_⟩, hf2⟩), fun c => absurd c2 c⟩
        · rw [hps, hs1]; unfold psc; rw [e]
        · rw [h10, hps, hs1]; unfold psc; rw [e]
      obtain ⟨hv8, cl, e, g1, g2, g3⟩ := hc.resolve_right (fun y => c2 y.1)
      have cd10 : CD9 it10 (tx9 it0) (n + 1) := cd9_s (cd9_t hcd T10) e g1 g2 g3
      have hpe : psc (tx9 it0) 12 0 0 = if (tx9 it0).1 ≤ (pcl (tx9 it0) (cpos (tx9 it0) n)).1 then ((pcl (tx9 it0) (cpos (tx9 it0) n)).1, some (n + 1)) else if n + 1 = 12 then ((pcl (tx9 it0) (cpos (tx9 it0) n)).1, none) else if sg (tx9 it0) (pcl (tx9 it0) (cpos (tx9 it0) n)).1 = 59 then psc (tx9 it0) g (n + 1) ((pcl (tx9 it0) (cpos (tx9 it0) n)).1 + 1) else ((pcl (tx9 it0) (cpos (tx9 it0) n)).1, none) := by
        rw [hps, hs1]
        show (match (pcl (tx9 it0) (cpos (tx9 it0) n)).2 with | none => _ | some _ => _) = _
        rw [e]
      -- here it ends, whether or not the text does
      have stop : ∀ it' : ITt, it' 489 = it10 489 → CD9 it' (tx9 it0) (n + 1) → (n + 1 = 12 ∨ ¬ sg (tx9 it0) (pcl (tx9 it0) (cpos (tx9 it0) n)).1 = 59) → EX9 (tx9 it0) it' (x1 + 1) 1 := by
        intro it' e489 cd hend
        refine Or.inr ⟨rfl, ?_⟩
        rw [e489, h10, l10]
        rw [h10, l10] at A10
        by_cases z : (tx9 it0).1 ≤ (pcl (tx9 it0) (cpos (tx9 it0) n)).1
        · rw [if_pos z] at hpe
          exact Or.inl ⟨by omega, n + 1, by rw [hpe], by omega, fxn, cd⟩
        · rw [if_neg z] at hpe
          have hpe2 : psc (tx9 it0) 12 0 0 = ((pcl (tx9 it0) (cpos (tx9 it0) n)).1, none) := by
            rw [hpe]
            by_cases y : n + 1 = 12
            · rw [if_pos y]
            · rw [if_neg y, if_neg (hend.resolve_left y)]
          exact Or.inr ⟨by omega, by rw [hpe2], by rw [hpe2]⟩
      unfold w_X9_read_b35
      rw [hv8]
      refine ⟨fun c => absurd c (by decide), fun _ => ⟨fun c3 => ?_, fun c3 => ?_⟩⟩
      · exact ih _ _ _ it10 J10 A10 G10 (Or.inl ⟨rfl, stop it10 rfl cd10 (Or.inl (t12.mp c3)), hf2⟩)
      have n12 : ¬ n + 1 = 12 := fun z => c3 (t12.mpr z)
      refine ⟨_, f_X9_isSign (n + 1) 59 J10 A10 (by decide) _ h10, ?_⟩
      intro v25 lg26 it27 hq2
      obtain ⟨⟨⟨J27, A27⟩, rfl, T27⟩, R27, hs⟩ := hq2
      rw [g9_tx G10, t59] at hs
      have G27 := g9_t G10 T27
      have cd27 : CD9 it27 (tx9 it0) (n + 1) := cd9_t cd10 T27
      refine ⟨fun c5 => ?_, fun c5 => ?_⟩
      · obtain ⟨_, hn2, h27⟩ := hs.resolve_left (fun y => by rw [y.1] at c5; exact absurd c5 (by decide))
        have e489 : it27 489 = it10 489 := by
          funext k
          by_cases z : k = 51
          · rw [z]; exact Int32.toInt_inj.mp (by rw [h27, h10])
          · exact T27.1 k z
        exact ih _ _ _ it27 J27 A27 G27 (Or.inl ⟨rfl, stop it27 e489 cd27 (Or.inr hn2), hf2⟩)
      · obtain ⟨_, hy, h27⟩ := hs.resolve_right (fun y => c5 y.1)
        have nend : ¬ (tx9 it0).1 ≤ (pcl (tx9 it0) (cpos (tx9 it0) n)).1 := by
          intro z
          have : sg (tx9 it0) (pcl (tx9 it0) (cpos (tx9 it0) n)).1 = -1 := by unfold sg sgI; rw [if_neg (by omega)]; exact ti_m1
          omega
        rw [if_neg nend, if_neg n12, if_pos hy] at hpe
        exact ih _ _ _ it27 J27 A27 G27 (Or.inr ⟨rfl, rfl, n + 1, ⟨fxn, by omega, h27, cd27, by rw [hpe, hs2]; rfl⟩, hf3⟩)
  unfold w_X9_read
  intro it1 m1
  have J1 : I9 lg0 it1 := by rw [m1]; exact i9_at hI (by rw [ti_0]; omega)
  have G1 : TG9 it0 it1 := ⟨fun k hk => by rw [m1]; exact u2_ne (fun q => hk (by omega)), fun j hj => by rw [m1]; exact u2_row (by omega)⟩
  have e1 : (it1 489 51).toInt = 0 := by rw [m1, u2_eq]; exact ti_0
  exact ⟨_, sc 14 0 1 1 it1 J1 (by rw [e1, G1.1 50 (by decide)]; omega) G1 (Or.inr ⟨rfl, rfl, 0, ⟨ti_0, by decide, e1, fun j hj => absurd hj (Nat.not_lt_zero _), rfl⟩, by decide⟩)⟩
