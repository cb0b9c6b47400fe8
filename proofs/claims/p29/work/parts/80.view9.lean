/-! the memory of the second side as rails -/
def vw9 (lg : LGt) (it : ITt) : Rlv :=
  ((it 489 0).toNatClampNeg,
   (fun i => if i < (it 489 0).toNatClampNeg then it 490 i else 0),
   (fun i => if i < (it 489 0).toNatClampNeg then (lg 491 i, lg 492 i) else (0, 1)),
   (fun i => if i < (it 489 0).toNatClampNeg then (lg 493 i, lg 494 i) else (0, 1)),
   it 489 1, it 489 2, it 489 3)
def vm9 (lg : LGt) (it : ITt) : Rlv :=
  ((it 489 0).toNatClampNeg,
   (fun i => if i < (it 489 0).toNatClampNeg then it 501 i else 0),
   (fun i => if i < (it 489 0).toNatClampNeg then (lg 502 i, lg 503 i) else (0, 1)),
   (fun i => if i < (it 489 0).toNatClampNeg then (lg 504 i, lg 505 i) else (0, 1)),
   it 489 30, it 489 31, it 489 32)
theorem vm9_k {S F : Nat → Prop} {lg lg' : LGt} {it it' : ITt} (hk : Kd S F lg it lg' it') (hs : ∀ j, S j → ¬ (501 ≤ j ∧ j ≤ 505)) (hf : ∀ k, F k → k ≠ 0 ∧ k ≠ 30 ∧ k ≠ 31 ∧ k ≠ 32) : vm9 lg' it' = vm9 lg it := by
  have r (j : Nat) (h : 501 ≤ j ∧ j ≤ 505) : lg' j = lg j ∧ it' j = it j := hk.1 j (by omega) (fun q => hs j q h)
  unfold vm9
  rw [(hk.2 0 (fun q => (hf _ q).1 rfl)).2, (hk.2 30 (fun q => (hf _ q).2.1 rfl)).2, (hk.2 31 (fun q => (hf _ q).2.2.1 rfl)).2, (hk.2 32 (fun q => (hf _ q).2.2.2 rfl)).2, (r 501 (by decide)).2, (r 502 (by decide)).1, (r 503 (by decide)).1, (r 504 (by decide)).1, (r 505 (by decide)).1]
theorem mM_lt {lg : LGt} {it : ITt} {i : Nat} (h : i < (it 489 0).toNatClampNeg) : rM (vm9 lg it) i = it 501 i := if_pos h
theorem mP_lt {lg : LGt} {it : ITt} {i : Nat} (h : i < (it 489 0).toNatClampNeg) : rP (vm9 lg it) i = (lg 502 i, lg 503 i) := if_pos h
theorem mS_lt {lg : LGt} {it : ITt} {i : Nat} (h : i < (it 489 0).toNatClampNeg) : rS (vm9 lg it) i = (lg 504 i, lg 505 i) := if_pos h
theorem svP {lg : LGt} {it : ITt} {V : Rlv} {i j : Nat} {o : Int32} (h : vm9 lg it = V) (hV : VO V) (e : j = i) (hi : j < rN V) : Sv o (lg 502 j) (lg 503 j) (some (rP V i)) := by
  subst e
  intro _
  subst h
  have z := (hV.2.1 j).1
  rw [mP_lt hi] at z ⊢
  exact ⟨rfl, z⟩
theorem svS {lg : LGt} {it : ITt} {V : Rlv} {i j : Nat} {o : Int32} (h : vm9 lg it = V) (hV : VO V) (e : j = i) (hi : j < rN V) : Sv o (lg 504 j) (lg 505 j) (some (rS V i)) := by
  subst e
  intro _
  subst h
  have z := (hV.2.1 j).2
  rw [mS_lt hi] at z ⊢
  exact ⟨rfl, z⟩
theorem svM {lg : LGt} {it : ITt} {V : Rlv} {i j : Nat} {o : Int32} (h : vm9 lg it = V) (e : j = i) (hi : j < rN V) : Sv o (it 501 j).toInt64 1 (mF (rM V i)) := by
  subst e
  subst h
  rw [mM_lt hi]
  exact sv_c (show 0 < (1 : Int64).toInt by decide)
theorem svB {lg : LGt} {it : ITt} {V : Rlv} {i j k l : Nat} {o : Int32} (h : vm9 lg it = V) (e : j = i) (hi : j < rN V) (e2 : l = k) (hk : l < rN V) : Sv o (it 501 j + it 501 l).toInt64 1 (mF (rM V i + rM V k)) := by
  subst e e2
  subst h
  rw [mM_lt hi, mM_lt hk]
  exact sv_c (show 0 < (1 : Int64).toInt by decide)
theorem svE {o : Int32} {q q2 : Int32} (e : q = q2) : Sv o (quU q) (quD q) (qF q2) := by
  subst e
  exact sv_c (pos_q q _ rfl)
theorem T9_v {lg : LGt} {it : ITt} (h : VO (vm9 lg it)) : T9 lg it := by
  intro i h6 hn
  have hi : i < (it 489 0).toNatClampNeg := by
    have := cl32 (i := it 489 0) (by omega)
    omega
  have z := h.2.1 i
  have m := h.2.2.1 i hi
  rw [mM_lt hi] at m
  rw [mP_lt hi, mS_lt hi] at z
  have ne {x : Int64} (q : 0 < x.toInt) : ¬ x = 0 := fun e => by rw [e] at q; exact absurd q (by decide)
  exact ⟨⟨ne z.1, ne z.2⟩, m⟩
/-- the best so far -/
def BJ (o x : Int32) (q : QQ) (V : Rlv) (k : Nat) : Prop := o = 0 → (x.toInt = -1 ∧ scan V k = some none) ∨ ∃ w, x.toInt = cw V w ∧ scan V k = some (some (w, q))
def BI (lg : LGt) (it : ITt) (V : Rlv) (k : Nat) : Prop := BJ (it 489 20) (it 489 33) (lg 489 34, lg 489 35) V k ∧ (¬ it 489 20 = 0 → scan V k = none)
theorem bj_w {o o' x : Int32} {q : QQ} {V : Rlv} {k : Nat} (h : BJ o x q V k) (m : o' = 0 → o = 0) : BJ o' x q V k := fun z => h (m z)
theorem scan_1 {V : Rlv} {k : Nat} (h : scan V k = none) : scan V (k + 1) = none := scan_n h 1
theorem scan_g0 {V : Rlv} {k : Nat} (g : gap V k = none) : scan V (k + 1) = scan V k := by
  show nsc (scan V k) k (gap V k) = _
  rw [g]
  cases scan V k with
  | none => rfl
  | some b => rfl
theorem scan_gn {V : Rlv} {k : Nat} {X : Option QQ} (g : gap V k = some X) (h : X = none) : scan V (k + 1) = none := by
  show nsc (scan V k) k (gap V k) = _
  rw [g, h]
  cases scan V k with
  | none => rfl
  | some b => rfl
theorem scan_g1 {V : Rlv} {k : Nat} {d : QQ} (g : gap V k = some (some d)) (h : scan V k = some none) : scan V (k + 1) = some (some (k, d)) := by
  show nsc (scan V k) k (gap V k) = _
  rw [g, h]
  rfl
theorem scan_g2 {V : Rlv} {k w : Nat} {d l : QQ} (g : gap V k = some (some d)) (h : scan V k = some (some (w, l))) : scan V (k + 1) = (match oL (some d) (some l) with | none => none | some r => if r.1 < 0 then some (some (k, d)) else some (some (w, l))) := by
  show nsc (scan V k) k (gap V k) = _
  rw [g, h]
  rfl
theorem bi_0 {lg : LGt} {it : ITt} {V : Rlv} {k : Nat} (h : BI lg it V k) (g : gap V k = none) : BI lg it V (k + 1) := by
  unfold BI BJ
  rw [scan_g0 g]
  exact h
theorem f_X9_offers (a1 : Int32) {lg0 : LGt} {it0 : ITt} (hI : I9 lg0 it0) (hd : ¬ lg0 489 19 = 0) (hw : W9 lg0 it0) (hv : ((a1.toInt = 0 ∨ a1.toInt = 9) ∧ 1 ≤ (it0 489 0).toInt) ∨ (1 ≤ a1.toInt ∧ a1.toInt < (it0 489 0).toInt)) (V : Rlv) (hV : VO V) (k : Nat) (X : Option QQ) (hX : Sv (it0 489 20) (lg0 489 18) (lg0 489 19) X) (hg : gap V k = some X) (hO : ¬ it0 489 20 = 0 → scan V (k + 1) = none) (hB : BJ (it0 489 20) (it0 489 33) (lg0 489 34, lg0 489 35) V k) (hk : a1.toInt = cw V k) : w_X9_offers a1 (fun (lg' : LGt) (it' : ITt) => (I9 lg' it' ∧ Kd (fun j => False) (fun k => k = 18 ∨ k = 19 ∨ k = 20 ∨ k = 33 ∨ k = 34 ∨ k = 35) lg0 it0 lg' it') ∧ (W9 lg' it' ∧ BI lg' it' V (k + 1))) lg0 it0 := by
  generalize hp : (fun (lg' : LGt) (it' : ITt) => (I9 lg' it' ∧ Kd (fun j => False) (fun k => k = 18 ∨ k = 19 ∨ k = 20 ∨ k = 33 ∨ k = 34 ∨ k = 35) lg0 it0 lg' it') ∧ (W9 lg' it' ∧ BI lg' it' V (k + 1))) = Pz
  have fin : ∀ (x2 : Int64) (lg : LGt) (it : ITt), I9 lg it → Kd (fun j => False) (fun k => k = 18 ∨ k = 19 ∨ k = 20 ∨ k = 33 ∨ k = 34 ∨ k = 35) lg0 it0 lg it → it 489 0 = it0 489 0 → (it 489 20 = 0 → scan V (k + 1) = some (some (k, (x2, lg0 489 19)))) → (¬ it 489 20 = 0 → scan V (k + 1) = none) → w_X9_offers_b37 a1 Pz x2 (lg0 489 19) lg it := by
    intro x2 lg it hJ hK h0 hs1 hs2
    unfold w_X9_offers_b37
    intro it1 m1 lg2 m2 lg3 m3
    subst hp
    have J1 : I9 lg it1 := by rw [m1]; exact i9_u hJ (ok9_n rfl) (by decide) (fun _ => by decide)
    have J3 : I9 lg3 it1 := by rw [m3, m2]; exact i9_l (i9_l J1 (by decide) (by decide) (by decide)) (by decide) (by decide) (by decide)
    have e33 : it1 489 33 = a1 := by rw [m1, u2_eq]
    have e20 : it1 489 20 = it 489 20 := by rw [m1]; exact u2_ne (by decide)
    have e0 : it1 489 0 = it0 489 0 := by rw [m1, u2_ne (by decide)]; exact h0
    have e35 : lg3 489 35 = lg0 489 19 := by rw [m3, u2_eq]
    have e34 : lg3 489 34 = x2 := by rw [m3, u2_ne (by decide), m2, u2_eq]
    refine ⟨⟨J3, ?_⟩, ?_, ?_⟩
    · rw [m3, m2, m1]; exact kd_lf (by first | decide | (dsimp only; decide) | omega | (dsimp only; omega)) (kd_lf (by first | decide | (dsimp only; decide) | omega | (dsimp only; omega)) (kd_uf (by first | decide | (dsimp only; decide) | omega | (dsimp only; omega)) hK))
    · unfold W9
      rw [e33, e0, e35]
      exact ⟨fun _ => hd, Or.inr hv⟩
    · unfold BI BJ
      rw [e33, e20, e34, e35]
      exact ⟨fun z => Or.inr ⟨k, hk, hs1 z⟩, hs2⟩
  unfold w_X9_offers
  have hnn := cw_ge V
  refine ⟨fun c => fin _ _ _ hI kd_r rfl (fun z => ?_) hO, fun c => ?_⟩
  · rw [Int32.lt_iff_toInt_lt, ti_0] at c
    rcases hB z with ⟨_, hs⟩ | ⟨w, hx, _⟩
    · exact scan_g1 (by rw [hg, (hX z).1]) hs
    · have := hnn w; omega
  rw [Int32.lt_iff_toInt_lt, ti_0] at c
  have hbb := hw.1 (by omega)
  refine ⟨i9_o hI, hd, hbb, ?_⟩
  intro q3 m3 lg4 m4 it5 m5
  have J : I9 lg4 it5 := by rw [m4, m5]; exact i9_g hI (by rw [m3]; exact gL_o (i9_o hI))
  have K : Kd (fun j => False) (fun k => k = 18 ∨ k = 19 ∨ k = 20 ∨ k = 33 ∨ k = 34 ∨ k = 35) lg0 it0 lg4 it5 := by rw [m4, m5]; exact kd_g (by first | decide | (dsimp only; decide) | omega | (dsimp only; omega)) (by first | decide | (dsimp only; decide) | omega | (dsimp only; omega)) (by first | decide | (dsimp only; decide) | omega | (dsimp only; omega)) kd_r
  have e5 : it5 489 20 = (gLess (lg0 489 18) (lg0 489 19) (lg0 489 34) (lg0 489 35) (it0 489 20)).2.2 := by rw [m5, setO_o, m3]
  -- what the best one is, where there was no OVER
  have hb2 : it0 489 20 = 0 → ∃ w, (it0 489 33).toInt = cw V w ∧ scan V k = some (some (w, (lg0 489 34, lg0 489 35))) := fun z => (hB z).resolve_left (fun q => by omega)
  have hbv : Sv (it0 489 20) (lg0 489 34) (lg0 489 35) (some (lg0 489 34, lg0 489 35)) := fun z => ⟨rfl, by
    obtain ⟨w, _, hs⟩ := hb2 z
    exact (scan_pos hV k _ hs).2⟩
  have zs := sv_l hX hbv
  have hn : ¬ it5 489 20 = 0 → scan V (k + 1) = none := by
    intro h
    rw [e5] at h
    rcases zs.2.2 h with h2 | h2
    · exact hO h2
    · by_cases z : it0 489 20 = 0
      · obtain ⟨w, _, hs⟩ := hb2 z
        have hx := (hX z).1
        rw [scan_g2 (by rw [hg, hx]) hs, ← hx, h2]
      · exact hO z
  have hy : it5 489 20 = 0 → ∃ w, (it0 489 33).toInt = cw V w ∧ scan V (k + 1) = if q3.1 < 0 then some (some (k, (lg0 489 18, lg0 489 19))) else some (some (w, (lg0 489 34, lg0 489 35))) := by
    intro h
    rw [e5] at h
    have z := zs.2.1 h
    obtain ⟨w, hx33, hs⟩ := hb2 z
    have hx := (hX z).1
    have hr := (zs.1 h).1
    refine ⟨w, hx33, ?_⟩
    rw [scan_g2 (by rw [hg, hx]) hs, ← hx, hr, m3]
  refine ⟨fun c2 => fin _ _ _ J K (by rw [m5]; exact setO_c (by decide)) (fun z => ?_) hn, fun c2 => ?_⟩
  · obtain ⟨w, _, e⟩ := hy z
    rw [e, if_pos c2]
  subst hp
  refine ⟨⟨J, K⟩, W9_c hw ?_ ?_ ?_, ?_⟩
  · rw [m4]; exact setU_c (by decide) (by decide)
  · rw [m5]; exact setO_c (by decide)
  · rw [m5]; exact setO_c (by decide)
  · unfold BI BJ
    have e33 : it5 489 33 = it0 489 33 := by rw [m5]; exact setO_c (by decide)
    have e34 : lg4 489 34 = lg0 489 34 := by rw [m4]; exact setU_c (by decide) (by decide)
    have e35 : lg4 489 35 = lg0 489 35 := by rw [m4]; exact setU_c (by decide) (by decide)
    rw [e33, e34, e35]
    refine ⟨fun z => ?_, hn⟩
    obtain ⟨w, h33, e⟩ := hy z
    exact Or.inr ⟨w, h33, by rw [e, if_neg c2]⟩
