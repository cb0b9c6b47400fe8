/-! how often one takes part, on both sides -/
def tp (N a w : Int) : Prop := (w = 0 ∧ a = 0) ∨ (w = 9 ∧ a = N - 1) ∨ (¬ w = 0 ∧ ¬ w = 9 ∧ (a = w - 1 ∨ a = w))
noncomputable def oft (V : Rlv) (a : Int) : Nat → Nat
  | 0 => 0
  | k + 1 => oft V a k + @ite _ (tp (rN V) a (whr V k)) (Classical.propDecidable _) 1 0
noncomputable def ofI (V : Rlv) (a : Int32) : Int := if 0 ≤ a.toInt ∧ a.toInt < rN V then (oft V a.toInt (cnt V 20) : Int) else -1
theorem whr_b {V : Rlv} (h : VO V) (k : Nat) : 0 ≤ whr V k ∧ whr V k ≤ 9 := by
  unfold whr
  split
  · rename_i l e
    have b := nxt_pos (run_vo h k).1 e
    have n := (run_vo h k).1.1
    unfold cw
    split
    · omega
    · omega
  · omega
theorem oft_le (V : Rlv) (a : Int) : ∀ k, oft V a k ≤ k
  | 0 => Nat.le_refl 0
  | k + 1 => by
    have h := oft_le V a k
    unfold oft
    split
    · omega
    · omega
theorem f_X8_takesPart (a1 a2 : Int32) {lg0 : LGt} {it0 : ITt} (N : Nat) (hN : (it0 2 0).toInt = N) (h6 : N ≤ 6) (hb : 0 ≤ a2.toInt ∧ a2.toInt ≤ 9) : w_X8_takesPart a1 a2 (fun (v : Int32) (lg' : LGt) (it' : ITt) => lg' = lg0 ∧ it' = it0 ∧ ((v = 1 ∧ tp N a1.toInt a2.toInt) ∨ (v = 0 ∧ ¬ tp N a1.toInt a2.toInt))) lg0 it0 := by
  have e1 : (a2 - 1).toInt = a2.toInt - 1 := sb32 rfl ti_1 (by omega) (by omega)
  have e2 : (it0 2 0 - 1).toInt = (it0 2 0).toInt - 1 := sb32 rfl ti_1 (by omega) (by omega)
  unfold w_X8_takesPart tp
  simp only [← Int32.toInt_inj, ti_0, ti_9, e1, e2, hN]
  refine ⟨fun c => ⟨fun c2 => ⟨fun c3 => ⟨trivial, trivial, Or.inl ⟨trivial, ?_⟩⟩, fun c3 => ⟨fun c4 => ⟨trivial, trivial, Or.inr ⟨trivial, ?_⟩⟩, fun c4 => ⟨trivial, trivial, Or.inl ⟨trivial, ?_⟩⟩⟩⟩, fun c2 => ⟨fun c3 => ⟨trivial, trivial, Or.inr ⟨trivial, ?_⟩⟩, fun c3 => ⟨trivial, trivial, Or.inl ⟨trivial, ?_⟩⟩⟩⟩, fun c => ⟨fun c2 => ⟨trivial, trivial, Or.inr ⟨trivial, ?_⟩⟩, fun c2 => ⟨trivial, trivial, Or.inl ⟨trivial, ?_⟩⟩⟩⟩ <;> omega
theorem f_X9_isOf (a0 a1 a2 : Int32) {lg0 : LGt} {it0 : ITt} (N : Nat) (hN : a2.toInt = (N : Int) - 1) (hb : 0 ≤ a0.toInt ∧ a0.toInt ≤ 9) : w_X9_isOf a0 a1 a2 (fun (v : Int32) (lg' : LGt) (it' : ITt) => lg' = lg0 ∧ it' = it0 ∧ ((v = 1 ∧ tp N a1.toInt a0.toInt) ∨ (v = 0 ∧ ¬ tp N a1.toInt a0.toInt))) lg0 it0 := by
  have e1 : (a0 - 1).toInt = a0.toInt - 1 := sb32 rfl ti_1 (by omega) (by omega)
  unfold w_X9_isOf tp
  simp only [← Int32.toInt_inj, ti_0, ti_9, e1, hN]
  refine ⟨fun c => ⟨fun c2 => ⟨fun c3 => ⟨trivial, trivial, Or.inl ⟨trivial, ?_⟩⟩, fun c3 => ⟨fun c4 => ⟨trivial, trivial, Or.inr ⟨trivial, ?_⟩⟩, fun c4 => ⟨trivial, trivial, Or.inl ⟨trivial, ?_⟩⟩⟩⟩, fun c2 => ⟨fun c3 => ⟨trivial, trivial, Or.inr ⟨trivial, ?_⟩⟩, fun c3 => ⟨trivial, trivial, Or.inl ⟨trivial, ?_⟩⟩⟩⟩, fun c => ⟨fun c2 => ⟨trivial, trivial, Or.inr ⟨trivial, ?_⟩⟩, fun c2 => ⟨trivial, trivial, Or.inl ⟨trivial, ?_⟩⟩⟩⟩ <;> omega
theorem f_X8_often (a1 : Int32) {lg0 : LGt} {it0 : ITt} (hI : I8 lg0 it0) (V : Rlv) (hV : RV lg0 it0 2 V) (hVO : VO V) (hc : CI lg0 it0) : w_X8_often a1 (fun (v : Int32) (lg' : LGt) (it' : ITt) => (I8 lg' it' ∧ Kc (fun j => (55 ≤ j ∧ j < 450)) lg0 it0 lg' it') ∧ v.toInt = ofI V a1 ∧ CI lg' it') lg0 it0 := by
  have hN := rN_f hI in_rb_2 hV
  have hcl := cnt_le V 20
  generalize hp : (fun (v : Int32) (lg' : LGt) (it' : ITt) => (I8 lg' it' ∧ Kc (fun j => (55 ≤ j ∧ j < 450)) lg0 it0 lg' it') ∧ v.toInt = ofI V a1 ∧ CI lg' it') = Pz
  unfold w_X8_often
  rw [hN]
  refine ⟨fun c => ⟨_, w20 hI V hV hVO hc, ?_⟩, fun c => ?_⟩
  case refine_2 =>
    subst hp
    exact ⟨⟨hI, kc_r⟩, by unfold ofI; rw [if_neg c]; exact ti_m1, hc⟩
  rintro lgA itA ⟨⟨J, K⟩, s, C⟩
  have V2 : RV lgA itA 2 V := rv_k hV K (fun j hj => by omega)
  have hN2 := rN_f J in_rb_2 V2
  have lp : ∀ (n : Nat) (y x : Int32) (k : Nat), x.toInt = k → k ≤ cnt V 20 → y.toInt = (oft V a1.toInt k : Int) → cnt V 20 - k < n → w_X8_often_b30 a1 Pz n y x lgA itA := by
    intro n
    induction n with
    | zero => intro y x k _ _ _ hn; exact absurd hn (Nat.not_lt_zero _)
    | succ n ih =>
      intro y x k hx hk hy hn
      have hol := oft_le V a1.toInt k
      unfold w_X8_often_b30
      rw [le0, s.1, hx]
      refine ⟨fun c2 => ?_, fun c2 => ?_⟩
      · obtain rfl : k = cnt V 20 := by omega
        subst hp
        exact ⟨⟨J, K⟩, by unfold ofI; rw [if_pos c]; exact hy, C⟩
      have hxk : x.toNatClampNeg = k := by have := cl32 (i := x) (by omega); omega
      have ew : (itA 436 x.toNatClampNeg).toInt = whr V k := by rw [hxk]; exact s.2.2.2 k (by omega)
      have fx : (x + 1).toInt = x.toInt + 1 := ad32 rfl ti_1 (by omega) (by omega)
      have fy : (y + 1).toInt = y.toInt + 1 := ad32 rfl ti_1 (by omega) (by omega)
      have fxk : (x + 1).toInt = ((k + 1 : Nat) : Int) := by omega
      refine ⟨vp_of (by omega) (by omega), _, f_X8_takesPart a1 (itA 436 x.toNatClampNeg) (rN V) hN2 hVO.1 (by rw [ew]; exact whr_b hVO k), ?_⟩
      rintro v lg' it' ⟨rfl, rfl, hv⟩
      rw [ew] at hv
      refine ⟨fun c3 => ?_, fun c3 => ?_⟩
      · have z := (hv.resolve_left (fun q => by rw [q.1] at c3; exact absurd c3 (by decide))).2
        exact ih y (x + 1) (k + 1) fxk (by omega) (by unfold oft; rw [if_neg z]; omega) (by omega)
      · have z := (hv.resolve_right (fun q => c3 q.1)).2
        exact ih (y + 1) (x + 1) (k + 1) fxk (by omega) (by unfold oft; rw [if_pos z]; omega) (by omega)
  exact ⟨_, lp (cnt V 20 + 1) 0 0 0 ti_0 (Nat.zero_le _) ti_0 (by omega)⟩
theorem f_X9_often (a1 : Int32) {lg0 : LGt} {it0 : ITt} (hI : I9 lg0 it0) (hVO : VO (vw9 lg0 it0)) : w_X9_often a1 (fun (v : Int32) (lg' : LGt) (it' : ITt) => (I9 lg' it' ∧ Kd (fun j => 501 ≤ j ∧ j ≤ 512) (fun k => k = 18 ∨ k = 19 ∨ k = 20 ∨ (28 ≤ k ∧ k ≤ 43)) lg0 it0 lg' it') ∧ v.toInt = ofI (vw9 lg0 it0) a1) lg0 it0 := by
  obtain ⟨hn, h6, hs⟩ := n9_b hI
  generalize hV : vw9 lg0 it0 = V at hn h6 hVO
  have hcl := cnt_le V 20
  generalize hp : (fun (v : Int32) (lg' : LGt) (it' : ITt) => (I9 lg' it' ∧ Kd (fun j => 501 ≤ j ∧ j ≤ 512) (fun k => k = 18 ∨ k = 19 ∨ k = 20 ∨ (28 ≤ k ∧ k ≤ 43)) lg0 it0 lg' it') ∧ v.toInt = ofI V a1) = Pz
  unfold w_X9_often
  rw [hs, hn]
  refine ⟨fun c => ⟨_, f_X9_findAll hI (by rw [hV]; exact hVO), ?_⟩, fun c => ?_⟩
  case refine_2 =>
    subst hp
    exact ⟨⟨hI, kd_r⟩, by unfold ofI; rw [if_neg (by omega)]; exact ti_m1⟩
  rw [hV]
  rintro lgA itA ⟨⟨J, K⟩, _, g1, g2, g3, _⟩
  have e0 : itA 489 0 = it0 489 0 := (K.2 0 (by omega)).2
  have lp : ∀ (n : Nat) (y x : Int32) (k : Nat), x.toInt = k → k ≤ cnt V 20 → y.toInt = (oft V a1.toInt k : Int) → cnt V 20 - k < n → w_X9_often_b18 a1 Pz n y x lgA itA := by
    intro n
    induction n with
    | zero => intro y x k _ _ _ hn; exact absurd hn (Nat.not_lt_zero _)
    | succ n ih =>
      intro y x k hx hk hy hn2
      have hol := oft_le V a1.toInt k
      unfold w_X9_often_b18
      rw [le0, g1, hx]
      refine ⟨fun c2 => ?_, fun c2 => ?_⟩
      · obtain rfl : k = cnt V 20 := by omega
        subst hp
        exact ⟨⟨J, kdA K⟩, by unfold ofI; rw [if_pos (by omega)]; exact hy⟩
      have hxk : x.toNatClampNeg = k := by have := cl32 (i := x) (by omega); omega
      have ew : (itA 508 x.toNatClampNeg).toInt = whr V k := by rw [hxk]; exact (g3 k (by omega)).1
      have fx : (x + 1).toInt = x.toInt + 1 := ad32 rfl ti_1 (by omega) (by omega)
      have fy : (y + 1).toInt = y.toInt + 1 := ad32 rfl ti_1 (by omega) (by omega)
      have fy0 : (y + 0).toInt = y.toInt + 0 := ad32 rfl ti_0 (by omega) (by omega)
      have fxk : (x + 1).toInt = ((k + 1 : Nat) : Int) := by omega
      refine ⟨vp_of (by omega) (by omega), _, f_X9_isOf (itA 508 x.toNatClampNeg) a1 (itA 489 0 - 1) (rN V) (by rw [e0, hs, hn]) (by rw [ew]; exact whr_b hVO k), ?_⟩
      rintro v lg' it' ⟨rfl, rfl, hv⟩
      rw [ew] at hv
      refine ⟨fun c3 => ?_, fun c3 => ?_⟩
      · have z := (hv.resolve_left (fun q => by rw [q.1] at c3; exact absurd c3 (by decide))).2
        exact ih (y + 0) (x + 1) (k + 1) fxk (by omega) (by unfold oft; rw [if_neg z]; omega) (by omega)
      · have z := (hv.resolve_right (fun q => c3 q.1)).2
        exact ih (y + 1) (x + 1) (k + 1) fxk (by omega) (by unfold oft; rw [if_pos z]; omega) (by omega)
  exact ⟨_, lp (cnt V 20 + 1) 0 0 0 ti_0 (Nat.zero_le _) ti_0 (by omega)⟩
