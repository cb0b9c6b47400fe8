/-! what is asked of a rail, answered by the second side -/
theorem n9_b {lg : LGt} {it : ITt} (hI : I9 lg it) : (it 489 0).toInt = rN (vw9 lg it) ∧ rN (vw9 lg it) ≤ 6 ∧ (it 489 0 - 1).toInt = (it 489 0).toInt - 1 := by
  have b := i9_f hI (j := 489) (k := 0) rfl
  have k := cl32 b.1
  refine ⟨k.symm, ?_, sb32 rfl ti_1 (by omega) (by omega)⟩
  show (it 489 0).toNatClampNeg ≤ 6
  omega
theorem wM9 {lg : LGt} {it : ITt} {i : Nat} (h : i < rN (vw9 lg it)) : rM (vw9 lg it) i = it 490 i := if_pos h
theorem wP9 {lg : LGt} {it : ITt} {i : Nat} (h : i < rN (vw9 lg it)) : rP (vw9 lg it) i = (lg 491 i, lg 492 i) := if_pos h
theorem wS9 {lg : LGt} {it : ITt} {i : Nat} (h : i < rN (vw9 lg it)) : rS (vw9 lg it) i = (lg 493 i, lg 494 i) := if_pos h
theorem b01 {b : Int32} (h : 0 ≤ b.toInt ∧ b.toInt ≤ 1) (c : ¬ b = 0) : b = 1 := by
  have : ¬ b.toInt = 0 := fun q => c (Int32.toInt_inj.mp (by rw [q]; rfl))
  exact Int32.toInt_inj.mp (by rw [ti_1]; omega)
theorem f_X9_of (a1 a2 a3 : Int32) {lg0 : LGt} {it0 : ITt} (hI : I9 lg0 it0) : w_X9_of a1 a2 a3 (fun (v : Int64) (lg' : LGt) (it' : ITt) => (I9 lg' it' ∧ Kd (fun j => False) (fun k => False) lg0 it0 lg' it') ∧ v = ofA (vw9 lg0 it0) a1 a2 a3) lg0 it0 := by
  obtain ⟨hn, h6, hs⟩ := n9_b hI
  unfold w_X9_of
  rw [hs, hn, Int32.toInt_toInt64, tl_0, show ((2 : Int64) : Int64).toInt = 2 by decide]
  generalize hV : vw9 lg0 it0 = V at hn h6
  refine ⟨fun c => ⟨⟨hI, kd_r⟩, by unfold ofA; rw [if_pos (Or.inl (by omega))]⟩, fun c => ⟨fun c2 => ⟨⟨hI, kd_r⟩, by unfold ofA; rw [if_pos (Or.inr (Or.inl c2))]⟩, fun c2 => ⟨fun c3 => ?_, fun c3 => ⟨⟨hI, kd_r⟩, by unfold ofA; rw [if_pos (Or.inr (Or.inr c3))]⟩⟩⟩⟩
  have hi : a1.toNatClampNeg < rN V := by have := cl32 c.1; omega
  have hv : vp_in a1 6 := vp_of c.1 (by omega)
  have hno : ¬ (¬ (0 ≤ a1.toInt ∧ a1.toInt < rN V) ∨ ¬ (0 ≤ a2.toInt ∧ a2.toInt ≤ 2) ∨ ¬ (0 ≤ a3.toInt ∧ a3.toInt ≤ 1)) := by omega
  subst hV
  refine ⟨fun c5 => ⟨fun c6 => ⟨fun c7 => ⟨hv, ⟨hI, kd_r⟩, ?_⟩, fun c7 => ⟨hv, ⟨hI, kd_r⟩, ?_⟩⟩, fun c6 => ⟨fun c7 => ⟨hv, ⟨hI, kd_r⟩, ?_⟩, fun c7 => ⟨hv, ⟨hI, kd_r⟩, ?_⟩⟩⟩, fun c5 => ⟨fun c7 => ⟨⟨hI, kd_r⟩, ?_⟩, fun c7 => ⟨hv, ⟨hI, kd_r⟩, ?_⟩⟩⟩
  · unfold ofA psA half; rw [if_neg hno, if_neg c5, if_neg c6, if_neg c7, wS9 hi]
  · unfold ofA psA half; rw [if_neg hno, if_neg c5, if_neg c6, if_pos c7, wS9 hi]
  · unfold ofA psA half; rw [if_neg hno, if_neg c5, if_pos c6, if_neg c7, wP9 hi]
  · unfold ofA psA half; rw [if_neg hno, if_neg c5, if_pos c6, if_pos c7, wP9 hi]
  · unfold ofA; rw [if_neg hno, if_pos c5, if_neg c7]
  · unfold ofA; rw [if_neg hno, if_pos c5, if_pos c7, wM9 hi]
theorem kdA {lg0 lg : LGt} {it0 it : ITt} (K : Kd (fun j => j = 501 ∨ j = 502 ∨ j = 503 ∨ j = 504 ∨ j = 505 ∨ j = 506 ∨ j = 507 ∨ j = 508 ∨ j = 509 ∨ j = 510 ∨ j = 511 ∨ j = 512) (fun k => k = 18 ∨ k = 19 ∨ k = 20 ∨ k = 28 ∨ k = 29 ∨ k = 30 ∨ k = 31 ∨ k = 32 ∨ k = 33 ∨ k = 34 ∨ k = 35 ∨ k = 36 ∨ k = 37 ∨ k = 38 ∨ k = 39 ∨ k = 40 ∨ k = 41 ∨ k = 42 ∨ k = 43) lg0 it0 lg it) : Kd (fun j => 501 ≤ j ∧ j ≤ 512) (fun k => k = 18 ∨ k = 19 ∨ k = 20 ∨ (28 ≤ k ∧ k ≤ 43)) lg0 it0 lg it := kd_t kd_r K (fun j hj => by omega) (fun k hk => by omega)
theorem wAll {lg0 lg : LGt} {it0 it : ITt} (K : Kd (fun j => 501 ≤ j ∧ j ≤ 512) (fun k => k = 18 ∨ k = 19 ∨ k = 20 ∨ (28 ≤ k ∧ k ≤ 43)) lg0 it0 lg it) : vw9 lg it = vw9 lg0 it0 := w9_k K (fun j hj => by omega) (fun k hk => by omega)
theorem f_X9_told (a1 : Int32) {lg0 : LGt} {it0 : ITt} (hI : I9 lg0 it0) (hVO : VO (vw9 lg0 it0)) : w_X9_told a1 (fun (v : Int32) (lg' : LGt) (it' : ITt) => (I9 lg' it' ∧ Kd (fun j => 501 ≤ j ∧ j ≤ 512) (fun k => k = 18 ∨ k = 19 ∨ k = 20 ∨ (28 ≤ k ∧ k ≤ 43)) lg0 it0 lg' it') ∧ v.toInt = tdI (vw9 lg0 it0) a1) lg0 it0 := by
  unfold w_X9_told
  rw [Int32.toInt_toInt64, tl_0, show ((5 : Int64) : Int64).toInt = 5 by decide]
  refine ⟨fun c => ⟨fun c2 => ⟨_, f_X9_findAll hI hVO, ?_⟩, fun c2 => ⟨⟨hI, kd_r⟩, ?_⟩, fun c2 => ⟨⟨hI, kd_r⟩, ?_⟩, fun c2 => ⟨⟨hI, kd_r⟩, ?_⟩, fun c2 => ⟨⟨hI, kd_r⟩, ?_⟩, trivial⟩, fun c => ⟨⟨hI, kd_r⟩, ?_⟩⟩
  · rintro lg' it' ⟨⟨J, K⟩, _, g1, g2, _⟩
    have t4 : a1 = 4 ↔ a1.toInt = 4 := by rw [← ti_4]; exact Int32.toInt_inj.symm
    rw [t4]
    refine ⟨fun c3 => ⟨⟨J, kdA K⟩, ?_⟩, fun c3 => ⟨⟨J, kdA K⟩, ?_⟩⟩
    · unfold tdI; rw [if_neg (by omega), if_neg (by omega), if_neg (by omega), if_neg (by omega), if_neg c3, if_pos (by omega)]; exact g2
    · unfold tdI; rw [if_neg (by omega), if_neg (by omega), if_neg (by omega), if_neg (by omega), if_pos c3]; exact g1
  · unfold tdI; rw [if_pos c2]; exact (n9_b hI).1
  · unfold tdI; rw [if_neg (by omega), if_pos c2]; rfl
  · unfold tdI; rw [if_neg (by omega), if_neg (by omega), if_pos c2]; rfl
  · unfold tdI; rw [if_neg (by omega), if_neg (by omega), if_neg (by omega), if_pos c2]; rfl
  · unfold tdI; rw [if_neg (by omega), if_neg (by omega), if_neg (by omega), if_neg (by omega), if_neg (by omega), if_neg (by omega)]; exact ti_m1
theorem f_X9_where (a1 : Int32) {lg0 : LGt} {it0 : ITt} (hI : I9 lg0 it0) (hVO : VO (vw9 lg0 it0)) : w_X9_where a1 (fun (v : Int32) (lg' : LGt) (it' : ITt) => (I9 lg' it' ∧ Kd (fun j => 501 ≤ j ∧ j ≤ 512) (fun k => k = 18 ∨ k = 19 ∨ k = 20 ∨ (28 ≤ k ∧ k ≤ 43)) lg0 it0 lg' it') ∧ v.toInt = whI (vw9 lg0 it0) a1) lg0 it0 := by
  have hcl := cnt_le (vw9 lg0 it0) 20
  have t5 : (-5 : Int32).toInt = -5 := by decide
  unfold w_X9_where
  rw [le0, ti_0]
  refine ⟨fun c => ⟨_, f_X9_findAll hI hVO, ?_⟩, fun c => ⟨⟨hI, kd_r⟩, ?_⟩⟩
  · rintro lg' it' ⟨⟨J, K⟩, _, g1, g2, g3, _⟩
    rw [le0, g1]
    refine ⟨fun c2 => ⟨⟨J, kdA K⟩, ?_⟩, fun c2 => ⟨vp_of c (by omega), ⟨J, kdA K⟩, ?_⟩⟩
    · unfold whI; rw [if_neg (by omega), if_pos c2]; exact t5
    · unfold whI; rw [if_neg (by omega), if_neg c2]; exact (g3 _ (by have := cl32 c; omega)).1
  · unfold whI; rw [if_pos (by omega)]; exact ti_m1
theorem f_X9_time (a1 a2 : Int32) {lg0 : LGt} {it0 : ITt} (hI : I9 lg0 it0) (hVO : VO (vw9 lg0 it0)) : w_X9_time a1 a2 (fun (v : Int64) (lg' : LGt) (it' : ITt) => (I9 lg' it' ∧ Kd (fun j => 501 ≤ j ∧ j ≤ 512) (fun k => k = 18 ∨ k = 19 ∨ k = 20 ∨ (28 ≤ k ∧ k ≤ 43)) lg0 it0 lg' it') ∧ v = tmA (vw9 lg0 it0) a1 a2) lg0 it0 := by
  have hcl := cnt_le (vw9 lg0 it0) 20
  unfold w_X9_time
  rw [lt0, ti_0]
  refine ⟨fun c => ⟨⟨hI, kd_r⟩, by unfold tmA; rw [if_pos (Or.inl c)]⟩, fun c => ⟨fun c2 => ⟨_, f_X9_findAll hI hVO, ?_⟩, fun c2 => ⟨⟨hI, kd_r⟩, by unfold tmA; rw [if_pos (Or.inr (Or.inr c2))]⟩⟩⟩
  rintro lg' it' ⟨⟨J, K⟩, _, g1, g2, g3, _⟩
  rw [le0, g1]
  refine ⟨fun c3 => ⟨⟨J, kdA K⟩, by unfold tmA; rw [if_pos (Or.inr (Or.inl c3))]⟩, fun c3 => ?_⟩
  have k := cl32 (i := a1) (by omega)
  have hv : vp_in a1 20 := vp_of (by omega) (by omega)
  have e := (g3 a1.toNatClampNeg (by omega)).2.1
  refine ⟨fun c4 => ⟨hv, ⟨J, kdA K⟩, ?_⟩, fun c4 => ⟨hv, ⟨J, kdA K⟩, ?_⟩⟩
  · unfold tmA half; rw [if_neg (by omega), if_neg c4, ← e]
  · unfold tmA half; rw [if_neg (by omega), if_pos c4, ← e]
theorem f_X9_behind (a1 a2 a3 a4 : Int32) {lg0 : LGt} {it0 : ITt} (hI : I9 lg0 it0) (hVO : VO (vw9 lg0 it0)) : w_X9_behind a1 a2 a3 a4 (fun (v : Int64) (lg' : LGt) (it' : ITt) => (I9 lg' it' ∧ Kd (fun j => 501 ≤ j ∧ j ≤ 512) (fun k => k = 18 ∨ k = 19 ∨ k = 20 ∨ (28 ≤ k ∧ k ≤ 43)) lg0 it0 lg' it') ∧ v = bhA (vw9 lg0 it0) a1 a2 a3 a4) lg0 it0 := by
  have hcl := cnt_le (vw9 lg0 it0) 20
  obtain ⟨hn, h6, hs⟩ := n9_b hI
  generalize hV : vw9 lg0 it0 = V at hn h6 hcl hVO
  have t1 : ((1 : Int64) : Int64).toInt = 1 := by decide
  unfold w_X9_behind
  rw [hs, hn, lt0, ti_m1, Int32.toInt_toInt64, tl_0, t1]
  refine ⟨fun c => ⟨⟨hI, kd_r⟩, by unfold bhA; rw [if_pos (Or.inl (by omega))]⟩, fun c => ⟨fun c2 => ⟨⟨hI, kd_r⟩, by unfold bhA; rw [if_pos (Or.inr (Or.inl c2))]⟩, fun c2 => ⟨fun c3 => ⟨⟨hI, kd_r⟩, by unfold bhA; rw [if_pos (Or.inr (Or.inr (Or.inr (Or.inl c3))))]⟩, fun c3 => ⟨fun c4 => ⟨_, f_X9_findAll hI (by rw [hV]; exact hVO), ?_⟩, fun c4 => ⟨⟨hI, kd_r⟩, by unfold bhA; rw [if_pos (Or.inr (Or.inr (Or.inr (Or.inr c4))))]⟩⟩⟩⟩⟩
  rw [hV]
  rintro lg' it' ⟨⟨J, K⟩, _, g1, g2, g3, _⟩
  have KA := kdA K
  have WA := wAll KA
  rw [hV] at WA
  have hi : a1.toNatClampNeg < rN V := by have := cl32 c.1; omega
  have ki := cl32 c.1
  have fin : ∀ (s0 : Int32), s0.toInt = (stk V a2 : Int) - 1 → stk V a2 ≤ cnt V 20 → a2.toInt < cnt V 20 → w_X9_behind_b65 a1 a2 a3 a4 (fun (v : Int64) (lg'' : LGt) (it'' : ITt) => (I9 lg'' it'' ∧ Kd (fun j => 501 ≤ j ∧ j ≤ 512) (fun k => k = 18 ∨ k = 19 ∨ k = 20 ∨ (28 ≤ k ∧ k ≤ 43)) lg0 it0 lg'' it'') ∧ v = bhA V a1 a2 a3 a4) s0 lg' it' := by
    intro s0 hs0 hle h2
    have eb : bhA V a1 a2 a3 a4 = half (psA (runA V (stk V a2)).2.2 a1.toNatClampNeg a3) a4 := by unfold bhA; rw [if_neg (by omega)]
    rw [eb]
    unfold w_X9_behind_b65
    rw [le0, ti_0]
    refine ⟨fun c5 => ?_, fun c5 => ⟨_, f_X9_of a1 a3 a4 J, ?_⟩⟩
    · have ks := cl32 c5
      have t12 : (12 : Int32).toInt = 12 := ti_12
      have t6 : (6 : Int32).toInt = 6 := ti_6
      have m1 : (12 * s0).toInt = 12 * s0.toInt := ml32 t12 rfl (by omega) (by omega)
      have m2 : (6 * a3).toInt = 6 * a3.toInt := ml32 t6 rfl (by omega) (by omega)
      have m3 : (12 * s0 + 6 * a3).toInt = 12 * s0.toInt + 6 * a3.toInt := ad32 m1 m2 (by omega) (by omega)
      have m4 : (12 * s0 + 6 * a3 + a1).toInt = 12 * s0.toInt + 6 * a3.toInt + a1.toInt := ad32 m3 rfl (by omega) (by omega)
      have k4 := cl32 (i := 12 * s0 + 6 * a3 + a1) (by omega)
      have hv : vp_in (12 * s0 + 6 * a3 + a1) 240 := vp_of (by omega) (by omega)
      have es : s0.toNatClampNeg + 1 = stk V a2 := by omega
      obtain ⟨_, _, g⟩ := g3 s0.toNatClampNeg (by omega)
      obtain ⟨gP, gS⟩ := g a1.toNatClampNeg hi
      rw [es] at gP gS
      have key : ∀ q : QQ, psA (runA V (stk V a2)).2.2 a1.toNatClampNeg a3 = q → q = (lg' 511 (12 * s0 + 6 * a3 + a1).toNatClampNeg, lg' 512 (12 * s0 + 6 * a3 + a1).toNatClampNeg) := by
        intro q hq
        rw [← hq]
        unfold psA
        by_cases c7 : a3 = 0
        · have z3 : a3.toInt = 0 := by rw [c7]; exact ti_0
          rw [if_pos c7, ← gP, show (12 * s0 + 6 * a3 + a1).toNatClampNeg = 12 * s0.toNatClampNeg + a1.toNatClampNeg by omega]
        · have z3 : a3.toInt = 1 := by rw [b01 c3 c7]; exact ti_1
          rw [if_neg c7, ← gS, show (12 * s0 + 6 * a3 + a1).toNatClampNeg = 12 * s0.toNatClampNeg + 6 + a1.toNatClampNeg by omega]
      have kq := key _ rfl
      refine ⟨fun c6 => ⟨hv, ⟨J, KA⟩, ?_⟩, fun c6 => ⟨hv, ⟨J, KA⟩, ?_⟩⟩
      · unfold half; rw [if_neg c6, kq]
      · unfold half; rw [if_pos c6, kq]
    · rintro v lg'' it'' ⟨⟨J2, K2⟩, ev⟩
      refine ⟨⟨J2, kd_t KA K2 (fun j hj => hj.elim) (fun k hk => hk.elim)⟩, ?_⟩
      have ez : stk V a2 = 0 := by omega
      have n2 : ¬ a3 = 2 := fun q => by rw [q, ti_2] at c3; omega
      rw [ev, WA, ez]
      unfold ofA
      rw [if_neg (by omega), if_neg n2]
      rfl
  rw [lt0, g1, le0, ti_0]
  refine ⟨fun c5 => ⟨fun c6 => fin _ ?_ ?_ c5, fun c6 => fin _ ?_ ?_ c5⟩, fun c5 => ⟨⟨J, KA⟩, by unfold bhA; rw [if_pos (Or.inr (Or.inr (Or.inl (by omega))))]⟩⟩
  · have k := cl32 c6
    unfold stk; rw [if_neg (by omega)]; omega
  · have k := cl32 c6
    unfold stk; rw [if_neg (by omega)]; omega
  · have f : (it' 489 42 - 1).toInt = (it' 489 42).toInt - 1 := sb32 rfl ti_1 (by omega) (by omega)
    unfold stk; rw [if_pos (by omega), f, g1]
  · unfold stk; rw [if_pos (by omega)]; exact Nat.le_refl _
