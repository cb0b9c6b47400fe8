/-! the second side: ALL -/
def KL (lg0 lg : LGt) (S k : Nat) : Prop := (∀ q, (q < 12 * S ∨ 12 * S + 12 ≤ q) → lg 511 q = lg0 511 q ∧ lg 512 q = lg0 512 q) ∧ (∀ i, i < k → (lg 511 (12 * S + i) = lg0 502 i ∧ lg 512 (12 * S + i) = lg0 503 i) ∧ (lg 511 (12 * S + 6 + i) = lg0 504 i ∧ lg 512 (12 * S + 6 + i) = lg0 505 i)) ∧ (lg 502 = lg0 502 ∧ lg 503 = lg0 503 ∧ lg 504 = lg0 504 ∧ lg 505 = lg0 505)
theorem kl_s {lg0 lg lg1 lg2 lg3 lg4 : LGt} {S k j1 j2 : Nat} (h : KL lg0 lg S k) (hk : k < 6) (h1 : j1 = 12 * S + k) (h2 : j2 = 12 * S + 6 + k) (e1 : lg1 = u2 lg 511 j1 (lg 502 k)) (e2 : lg2 = u2 lg1 512 j1 (lg1 503 k)) (e3 : lg3 = u2 lg2 511 j2 (lg2 504 k)) (e4 : lg4 = u2 lg3 512 j2 (lg3 505 k)) : KL lg0 lg4 S (k + 1) := by
  obtain ⟨a, b, c2, c3, c4, c5⟩ := h
  have r (j : Nat) (z1 : j ≠ 511) (z2 : j ≠ 512) : lg4 j = lg j := by rw [e4, u2_row z2, e3, u2_row z1, e2, u2_row z2, e1, u2_row z1]
  have v3 : lg1 503 k = lg0 503 k := by rw [e1, u2_row (by decide), c3]
  have v4 : lg2 504 k = lg0 504 k := by rw [e2, u2_row (by decide), e1, u2_row (by decide), c4]
  have v5 : lg3 505 k = lg0 505 k := by rw [e3, u2_row (by decide), e2, u2_row (by decide), e1, u2_row (by decide), c5]
  have v2 : lg 502 k = lg0 502 k := by rw [c2]
  have a11 (q : Nat) (n1 : q ≠ j1) (n2 : q ≠ j2) : lg4 511 q = lg 511 q := by rw [e4, u2_row (by decide), e3, u2_ne n2, e2, u2_row (by decide), e1, u2_ne n1]
  have a12 (q : Nat) (n1 : q ≠ j1) (n2 : q ≠ j2) : lg4 512 q = lg 512 q := by rw [e4, u2_ne n2, e3, u2_row (by decide), e2, u2_ne n1, e1, u2_row (by decide)]
  refine ⟨fun q hq => ?_, fun i hi => ?_, (r 502 (by decide) (by decide)).trans c2, (r 503 (by decide) (by decide)).trans c3, (r 504 (by decide) (by decide)).trans c4, (r 505 (by decide) (by decide)).trans c5⟩
  · rw [a11 q (by omega) (by omega), a12 q (by omega) (by omega)]; exact a q hq
  · by_cases z : i = k
    · subst z
      subst h1 h2
      refine ⟨⟨?_, ?_⟩, ?_, ?_⟩
      · rw [e4, u2_row (by decide), e3, u2_ne (by omega), e2, u2_row (by decide), e1, u2_eq]; exact v2
      · rw [e4, u2_ne (by omega), e3, u2_row (by decide), e2, u2_eq]; exact v3
      · rw [e4, u2_row (by decide), e3, u2_eq]; exact v4
      · rw [e4, u2_eq]; exact v5
    · obtain ⟨⟨p1, p2⟩, p3, p4⟩ := b i (by omega)
      rw [a11 _ (by omega) (by omega), a12 _ (by omega) (by omega), a11 _ (by omega) (by omega), a12 _ (by omega) (by omega)]
      exact ⟨⟨p1, p2⟩, p3, p4⟩
def KP (lg0 : LGt) (it0 : ITt) (lg : LGt) (it : ITt) (x : Int32) (S : Nat) : Prop := (∀ q, q ≠ S → it 508 q = it0 508 q ∧ lg 509 q = lg0 509 q ∧ lg 510 q = lg0 510 q) ∧ it 508 S = x ∧ lg 509 S = lg0 489 28 ∧ lg 510 S = lg0 489 29 ∧ KL lg0 lg S (it0 489 0).toNatClampNeg
theorem f_X9_keeps (a1 : Int32) {lg0 : LGt} {it0 : ITt} (hI : I9 lg0 it0) (hs : (it0 489 42).toInt < 20) : w_X9_keeps a1 (fun (lg' : LGt) (it' : ITt) => (I9 lg' it' ∧ Kd (fun j => j = 508 ∨ j = 509 ∨ j = 510 ∨ j = 511 ∨ j = 512) (fun k => k = 42) lg0 it0 lg' it') ∧ ((it' 489 42).toInt = (it0 489 42).toInt + 1 ∧ KP lg0 it0 lg' it' a1 (it0 489 42).toNatClampNeg)) lg0 it0 := by
  generalize hp : (fun (lg' : LGt) (it' : ITt) => (I9 lg' it' ∧ Kd (fun j => j = 508 ∨ j = 509 ∨ j = 510 ∨ j = 511 ∨ j = 512) (fun k => k = 42) lg0 it0 lg' it') ∧ ((it' 489 42).toInt = (it0 489 42).toInt + 1 ∧ KP lg0 it0 lg' it' a1 (it0 489 42).toNatClampNeg)) = Pz
  have f42 := i9_f hI (j := 489) (k := 42) rfl
  have f0 := i9_f hI (j := 489) (k := 0) rfl
  have hS := cl32 (i := it0 489 42) f42.1
  have hkn := cl32 (i := it0 489 0) f0.1
  have lp : ∀ (n : Nat) (x : Int32) (lg : LGt) (it : ITt), I9 lg it → Kd (fun j => j = 508 ∨ j = 509 ∨ j = 510 ∨ j = 511 ∨ j = 512) (fun k => k = 42) lg0 it0 lg it → it 489 42 = it0 489 42 → ((∀ q, q ≠ (it0 489 42).toNatClampNeg → it 508 q = it0 508 q ∧ lg 509 q = lg0 509 q ∧ lg 510 q = lg0 510 q) ∧ it 508 (it0 489 42).toNatClampNeg = a1 ∧ lg 509 (it0 489 42).toNatClampNeg = lg0 489 28 ∧ lg 510 (it0 489 42).toNatClampNeg = lg0 489 29 ∧ KL lg0 lg (it0 489 42).toNatClampNeg x.toNatClampNeg) → (0 ≤ x.toInt ∧ x.toInt ≤ (it0 489 0).toInt) → (7 - x.toInt).toNat < n → w_X9_keeps_b38 a1 Pz n x lg it := by
    intro n
    induction n with
    | zero => intro x lg it _ _ _ _ _ hn; exact absurd hn (Nat.not_lt_zero _)
    | succ n ih =>
      intro x lg it hJ hK h42 hC hx hn
      have e0 : it 489 0 = it0 489 0 := (hK.2 0 (by first | decide | (dsimp only; decide) | omega | (dsimp only; omega))).2
      have hk := cl32 hx.1
      unfold w_X9_keeps_b38
      refine ⟨fun c => ?_, fun c => ?_⟩
      · rw [Int32.le_iff_toInt_le, e0] at c
        intro it12 m12
        subst hp
        have f1 : (it 489 42 + 1).toInt = (it0 489 42).toInt + 1 := ad32 (by rw [h42]) ti_1 (by omega) (by omega)
        have r508 : it12 508 = it 508 := by rw [m12]; exact u2_row (by decide)
        refine ⟨⟨?_, ?_⟩, ?_, ?_⟩
        · rw [m12]; exact i9_u hJ (ok9_b (a := 0) (b := 20) rfl (by omega)) (by decide) (fun _ => by decide)
        · rw [m12]; exact kd_uf (by first | decide | (dsimp only; decide) | omega | (dsimp only; omega)) hK
        · rw [m12, u2_eq]; exact f1
        · have ex : x.toNatClampNeg = (it0 489 0).toNatClampNeg := by omega
          rw [ex] at hC
          unfold KP
          rw [r508]
          exact hC
      · rw [Int32.le_iff_toInt_le, e0] at c
        have hv : vp_in x 6 := vp_of hx.1 (by omega)
        rw [h42]
        have g1 : ((12 : Int32) * (it0 489 42)).toInt = 12 * (it0 489 42).toInt := ml32 ti_12 rfl (by omega) (by omega)
        have g2 : ((12 : Int32) * (it0 489 42) + x).toInt = 12 * (it0 489 42).toInt + x.toInt := ad32 g1 rfl (by omega) (by omega)
        have g3 : ((12 : Int32) * (it0 489 42) + 6).toInt = 12 * (it0 489 42).toInt + 6 := ad32 g1 ti_6 (by omega) (by omega)
        have g4 : ((12 : Int32) * (it0 489 42) + 6 + x).toInt = 12 * (it0 489 42).toInt + 6 + x.toInt := ad32 g3 rfl (by omega) (by omega)
        have j1 := cl32 (i := (12 : Int32) * (it0 489 42) + x) (by omega)
        have j2 := cl32 (i := (12 : Int32) * (it0 489 42) + 6 + x) (by omega)
        have v1 : vp_in ((12 : Int32) * (it0 489 42) + x) 240 := vp_of (by omega) (by omega)
        have v2 : vp_in ((12 : Int32) * (it0 489 42) + 6 + x) 240 := vp_of (by omega) (by omega)
        refine ⟨hv, v1, fun lg16 m16 => ⟨hv, v1, fun lg20 m20 => ⟨hv, v2, fun lg24 m24 => ⟨hv, v2, fun lg28 m28 => ?_⟩⟩⟩⟩
        have J : I9 lg28 it := by rw [m28, m24, m20, m16]; exact i9_l (i9_l (i9_l (i9_l hJ (by decide) (by decide) (by decide)) (by decide) (by decide) (by decide)) (by decide) (by decide) (by decide)) (by decide) (by decide) (by decide)
        have K : Kd (fun j => j = 508 ∨ j = 509 ∨ j = 510 ∨ j = 511 ∨ j = 512) (fun k => k = 42) lg0 it0 lg28 it := by rw [m28, m24, m20, m16]; exact kd_lr (by decide) (by first | decide | (dsimp only; decide) | omega | (dsimp only; omega)) (kd_lr (by decide) (by first | decide | (dsimp only; decide) | omega | (dsimp only; omega)) (kd_lr (by decide) (by first | decide | (dsimp only; decide) | omega | (dsimp only; omega)) (kd_lr (by decide) (by first | decide | (dsimp only; decide) | omega | (dsimp only; omega)) hK)))
        have rr (j : Nat) (z1 : j ≠ 511) (z2 : j ≠ 512) : lg28 j = lg j := by rw [m28, u2_row z2, m24, u2_row z1, m20, u2_row z2, m16, u2_row z1]
        have fx : (x + 1).toInt = x.toInt + 1 := ad32 rfl ti_1 (by omega) (by omega)
        obtain ⟨c1, c2, c3, c4, c5⟩ := hC
        refine ih (x + 1) lg28 it J K h42 ⟨?_, c2, ?_, ?_, ?_⟩ (by omega) (by omega)
        · rw [rr 509 (by decide) (by decide), rr 510 (by decide) (by decide)]; exact c1
        · rw [rr 509 (by decide) (by decide)]; exact c3
        · rw [rr 510 (by decide) (by decide)]; exact c4
        · rw [cl_add1 hx.1 (by omega)]
          exact kl_s c5 (by omega) (by omega) (by omega) m16 m20 m24 m28
  unfold w_X9_keeps
  have hv0 : vp_in (it0 489 42) 20 := vp_of f42.1 (by omega)
  refine ⟨hv0, fun it1 m1 => ?_⟩
  have e1 : it1 489 42 = it0 489 42 := by rw [m1]; exact congrFun (u2_row (by decide)) 42
  rw [e1]
  refine ⟨hv0, fun lg3 m3 => ⟨hv0, fun lg5 m5 => ?_⟩⟩
  have J : I9 lg5 it1 := by rw [m5, m3, m1]; exact i9_l (i9_l (i9_u hI (ok9_n rfl) (by decide) (fun q => absurd q (by decide))) (by decide) (by decide) (by decide)) (by decide) (by decide) (by decide)
  have K : Kd (fun j => j = 508 ∨ j = 509 ∨ j = 510 ∨ j = 511 ∨ j = 512) (fun k => k = 42) lg0 it0 lg5 it1 := by rw [m5, m3, m1]; exact kd_lr (by decide) (by first | decide | (dsimp only; decide) | omega | (dsimp only; omega)) (kd_lr (by decide) (by first | decide | (dsimp only; decide) | omega | (dsimp only; omega)) (kd_ur (by decide) (by first | decide | (dsimp only; decide) | omega | (dsimp only; omega)) kd_r))
  have r5 (j : Nat) (z1 : j ≠ 509) (z2 : j ≠ 510) : lg5 j = lg0 j := by rw [m5, u2_row z2, m3, u2_row z1]
  refine ⟨_, lp ((7 - (0 : Int32).toInt).toNat + 1) 0 lg5 it1 J K e1 ⟨fun q hq => ⟨?_, ?_, ?_⟩, ?_, ?_, ?_, fun q hq => ?_, fun i hi => absurd hi (Nat.not_lt_zero _), r5 _ (by decide) (by decide), r5 _ (by decide) (by decide), r5 _ (by decide) (by decide), r5 _ (by decide) (by decide)⟩ (by rw [ti_0]; omega) (Nat.lt_succ_self _)⟩
  · rw [m1, u2_ne hq]
  · rw [m5, u2_row (by decide), m3, u2_ne hq]
  · rw [m5, u2_ne hq, m3, u2_row (by decide)]
  · rw [m1, u2_eq]
  · rw [m5, u2_row (by decide), m3, u2_eq]
  · rw [m5, u2_eq, m3, u2_row (by decide)]
  · rw [r5 511 (by decide) (by decide), r5 512 (by decide) (by decide)]; exact ⟨rfl, rfl⟩
/-- what is told of the strikes below k -/
def AK (lg : LGt) (it : ITt) (V : Rlv) (k : Nat) : Prop := ∀ s, s < k → (it 508 s).toInt = whr V s ∧ (lg 509 s, lg 510 s) = (runA V (s + 1)).2.1 ∧ ∀ i, i < rN V → (lg 511 (12 * s + i), lg 512 (12 * s + i)) = rP (runA V (s + 1)).2.2 i ∧ (lg 511 (12 * s + 6 + i), lg 512 (12 * s + 6 + i)) = rS (runA V (s + 1)).2.2 i
theorem ak_e {lg lg' : LGt} {it it' : ITt} {V : Rlv} {k : Nat} (h : AK lg it V k) (e0 : it' 508 = it 508) (e1 : lg' 509 = lg 509) (e2 : lg' 510 = lg 510) (e3 : lg' 511 = lg 511) (e4 : lg' 512 = lg 512) : AK lg' it' V k := by
  intro s hs
  rw [e0, e1, e2, e3, e4]
  exact h s hs
theorem ak_k {S F : Nat → Prop} {lg lg' : LGt} {it it' : ITt} {V : Rlv} {k : Nat} (h : AK lg it V k) (hk : Kd S F lg it lg' it') (hs : ∀ j, S j → ¬ (508 ≤ j ∧ j ≤ 512)) : AK lg' it' V k := by
  have r (j : Nat) (h : 508 ≤ j ∧ j ≤ 512) : lg' j = lg j ∧ it' j = it j := hk.1 j (by omega) (fun q => hs j q h)
  exact ak_e h (r 508 (by decide)).2 (r 509 (by decide)).1 (r 510 (by decide)).1 (r 511 (by decide)).1 (r 512 (by decide)).1
theorem ak_s {lg lg' : LGt} {it it' : ITt} {V : Rlv} {k : Nat} {x : Int32} (h : AK lg it V k) (hp : KP lg it lg' it' x k) (h6 : rN V ≤ 6) (hx : x.toInt = whr V k) (hT : (lg 489 28, lg 489 29) = (runA V (k + 1)).2.1) (hv : vm9 lg it = (runA V (k + 1)).2.2) (hn : (it 489 0).toNatClampNeg = rN V) : AK lg' it' V (k + 1) := by
  obtain ⟨p1, p2, p3, p4, p5, p6, _⟩ := hp
  intro s hs
  by_cases z : s = k
  · subst z
    rw [p2, p3, p4]
    refine ⟨hx, hT, fun i hi => ?_⟩
    obtain ⟨⟨q1, q2⟩, q3, q4⟩ := p6 i (by omega)
    rw [q1, q2, q3, q4, ← hv, mP_lt (by omega), mS_lt (by omega)]
    exact ⟨rfl, rfl⟩
  · obtain ⟨a, b, c⟩ := h s (by omega)
    obtain ⟨r1, r2, r3⟩ := p1 s z
    rw [r1, r2, r3]
    refine ⟨a, b, fun i hi => ?_⟩
    rw [(p5 (12 * s + i) (by omega)).1, (p5 (12 * s + i) (by omega)).2, (p5 (12 * s + 6 + i) (by omega)).1, (p5 (12 * s + 6 + i) (by omega)).2]
    exact c i hi
def GR (lg : LGt) (it : ITt) (V : Rlv) (m : Nat) : Prop := it 489 20 = 0 ∧ (it 489 42).toInt = cnt V m ∧ (it 489 43).toInt = (runA V m).1 ∧ AK lg it V (cnt V m) ∧ vm9 lg it = (runA V m).2.2
theorem gr_m {lg : LGt} {it : ITt} {V : Rlv} {k m : Nat} (h : (runA V k).1 = 1) (e : m = k) (ho : it 489 20 = 0) (h2 : (it 489 42).toInt = k) (h3 : (it 489 43).toInt = 1) (ha : AK lg it V k) (hv : vm9 lg it = (runA V k).2.2) : GR lg it V m := by
  subst e
  exact ⟨ho, by rw [cnt_1 h]; exact h2, by rw [h]; exact h3, by rw [cnt_1 h]; exact ha, hv⟩
theorem gr_e {lg : LGt} {it : ITt} {V : Rlv} {k m : Nat} {e : Int} (h : (runA V k).1 = 1) (h2 : runA V (k + 1) = (e, (runA V k).2)) (he : e ≠ 1) (hk : k < m) (ho : it 489 20 = 0) (h3 : (it 489 42).toInt = k) (h4 : (it 489 43).toInt = e) (ha : AK lg it V k) (hv : vm9 lg it = (runA V k).2.2) : GR lg it V m := by
  have n1 : ¬ (runA V (k + 1)).1 = 1 := by rw [h2]; exact he
  have c := cnt_st h n1 hk
  have r : runA V m = runA V (k + 1) := run_le n1 (by omega)
  exact ⟨ho, by rw [c]; exact h3, by rw [r, h2]; exact h4, by rw [c]; exact ha, by rw [r, h2]; exact hv⟩
theorem vm9_u {lg : LGt} {it : ITt} {k : Nat} {v : Int32} (h : k ≠ 0 ∧ k ≠ 30 ∧ k ≠ 31 ∧ k ≠ 32) : vm9 lg (u2 it 489 k v) = vm9 lg it := by
  unfold vm9
  rw [u2_ne h.1.symm, u2_ne h.2.1.symm, u2_ne h.2.2.1.symm, u2_ne h.2.2.2.symm, u2_row (by decide)]
theorem f_X9_goesOn (a1 : Int32) {lg0 : LGt} {it0 : ITt} (hI : I9 lg0 it0) (hVO : VO (vm9 lg0 it0)) (ha : 0 ≤ a1.toInt ∧ a1.toInt ≤ 20) : w_X9_goesOn a1 (fun (lg' : LGt) (it' : ITt) => (I9 lg' it' ∧ Kd (fun j => j = 502 ∨ j = 503 ∨ j = 504 ∨ j = 505 ∨ j = 506 ∨ j = 507 ∨ j = 508 ∨ j = 509 ∨ j = 510 ∨ j = 511 ∨ j = 512) (fun k => k = 18 ∨ k = 19 ∨ k = 20 ∨ k = 28 ∨ k = 29 ∨ k = 33 ∨ k = 34 ∨ k = 35 ∨ k = 36 ∨ k = 37 ∨ k = 38 ∨ k = 39 ∨ k = 40 ∨ k = 41 ∨ k = 42 ∨ k = 43) lg0 it0 lg' it') ∧ GR lg' it' (vm9 lg0 it0) a1.toNatClampNeg) lg0 it0 := by
  generalize hp : (fun (lg' : LGt) (it' : ITt) => (I9 lg' it' ∧ Kd (fun j => j = 502 ∨ j = 503 ∨ j = 504 ∨ j = 505 ∨ j = 506 ∨ j = 507 ∨ j = 508 ∨ j = 509 ∨ j = 510 ∨ j = 511 ∨ j = 512) (fun k => k = 18 ∨ k = 19 ∨ k = 20 ∨ k = 28 ∨ k = 29 ∨ k = 33 ∨ k = 34 ∨ k = 35 ∨ k = 36 ∨ k = 37 ∨ k = 38 ∨ k = 39 ∨ k = 40 ∨ k = 41 ∨ k = 42 ∨ k = 43) lg0 it0 lg' it') ∧ GR lg' it' (vm9 lg0 it0) a1.toNatClampNeg) = Pz
  have hka := cl32 ha.1
  generalize hV : vm9 lg0 it0 = V at *
  have okb : ∀ {x : Int32}, x = 0 ∨ x = 1 → ok9 489 20 x := fun h => ok9_b (a := 0) (b := 1) rfl (by rcases h with rfl | rfl <;> decide)
  have lp : ∀ (n : Nat) (lg : LGt) (it : ITt), I9 lg it → Kd (fun j => j = 502 ∨ j = 503 ∨ j = 504 ∨ j = 505 ∨ j = 506 ∨ j = 507 ∨ j = 508 ∨ j = 509 ∨ j = 510 ∨ j = 511 ∨ j = 512) (fun k => k = 18 ∨ k = 19 ∨ k = 20 ∨ k = 28 ∨ k = 29 ∨ k = 33 ∨ k = 34 ∨ k = 35 ∨ k = 36 ∨ k = 37 ∨ k = 38 ∨ k = 39 ∨ k = 40 ∨ k = 41 ∨ k = 42 ∨ k = 43) lg0 it0 lg it → ∀ k : Nat, ((it 489 42).toInt = k ∧ (it 489 43).toInt = 1 ∧ (runA V k).1 = 1 ∧ AK lg it V k ∧ vm9 lg it = (runA V k).2.2 ∧ (lg 489 28, lg 489 29) = (runA V k).2.1) → k ≤ a1.toNatClampNeg → 20 - k < n → w_X9_goesOn_b20 a1 Pz n lg it := by
    intro n
    induction n with
    | zero => intro lg it _ _ k _ _ hn; exact absurd hn (Nat.not_lt_zero _)
    | succ n ih =>
      intro lg it hJ hK k ⟨h42, h43, hr, hak, hvm, hT⟩ hka2 hn
      unfold w_X9_goesOn_b20
      refine ⟨fun c => ?_, fun c => ?_⟩
      · rw [Int32.le_iff_toInt_le] at c
        intro it11 m11
        subst hp
        refine ⟨⟨by rw [m11]; exact i9_u hJ (okb (Or.inl rfl)) (by decide) (fun _ => by decide), by rw [m11]; exact kd_uf (by first | decide | (dsimp only; decide) | omega | (dsimp only; omega)) hK⟩, ?_⟩
        refine gr_m hr (by omega) (by rw [m11, u2_eq]) (by rw [m11, u2_ne (by decide)]; exact h42) (by rw [m11, u2_ne (by decide)]; exact h43) (ak_e hak (by rw [m11]; exact u2_row (by decide)) rfl rfl rfl rfl) (by rw [m11, vm9_u (by decide)]; exact hvm)
      · rw [Int32.le_iff_toInt_le] at c
        have hkm : k < a1.toNatClampNeg := by omega
        intro it13 m13
        have J13 : I9 lg it13 := by rw [m13]; exact i9_u hJ (okb (Or.inl rfl)) (by decide) (fun _ => by decide)
        have K13 : Kd (fun j => j = 502 ∨ j = 503 ∨ j = 504 ∨ j = 505 ∨ j = 506 ∨ j = 507 ∨ j = 508 ∨ j = 509 ∨ j = 510 ∨ j = 511 ∨ j = 512) (fun k => k = 18 ∨ k = 19 ∨ k = 20 ∨ k = 28 ∨ k = 29 ∨ k = 33 ∨ k = 34 ∨ k = 35 ∨ k = 36 ∨ k = 37 ∨ k = 38 ∨ k = 39 ∨ k = 40 ∨ k = 41 ∨ k = 42 ∨ k = 43) lg0 it0 lg it13 := by rw [m13]; exact kd_uf (by first | decide | (dsimp only; decide) | omega | (dsimp only; omega)) hK
        have vm13 : vm9 lg it13 = (runA V k).2.2 := by rw [m13, vm9_u (by decide)]; exact hvm
        have hvo := run_vo hVO k
        have o13 : it13 489 20 = 0 := by rw [m13, u2_eq]
        refine ⟨_, f_X9_next J13 (T9_v (by rw [vm13]; exact hvo.1)) (by rw [vm13]; exact hvo.1) o13, ?_⟩
        intro v16 lg17 it18 hq
        obtain ⟨⟨J18, K18⟩, _, hNR⟩ := hq
        rw [vm13] at hNR
        have e42 : it18 489 42 = it 489 42 := (K18.2 42 (by first | decide | (dsimp only; decide) | omega | (dsimp only; omega))).2.trans (by rw [m13]; exact u2_ne (by decide))
        have e43 : it18 489 43 = it 489 43 := (K18.2 43 (by first | decide | (dsimp only; decide) | omega | (dsimp only; omega))).2.trans (by rw [m13]; exact u2_ne (by decide))
        have vm18 : vm9 lg17 it18 = (runA V k).2.2 := (vm9_k K18 (fun j q => by first | omega | exact False.elim q | (dsimp only at q; omega)) (fun j q => by first | omega | exact False.elim q | (dsimp only at q; omega))).trans vm13
        have T18 : (lg17 489 28, lg17 489 29) = (runA V k).2.1 := by rw [(K18.2 28 (by first | decide | (dsimp only; decide) | omega | (dsimp only; omega))).1, (K18.2 29 (by first | decide | (dsimp only; decide) | omega | (dsimp only; omega))).1]; exact hT
        have A18 : AK lg17 it18 V k := ak_k (ak_e hak (show it13 508 = it 508 by rw [m13]; exact u2_row (by decide)) rfl rfl rfl rfl) K18 (fun j q => by first | omega | exact False.elim q | (dsimp only at q; omega))
        have KK18 : Kd (fun j => j = 502 ∨ j = 503 ∨ j = 504 ∨ j = 505 ∨ j = 506 ∨ j = 507 ∨ j = 508 ∨ j = 509 ∨ j = 510 ∨ j = 511 ∨ j = 512) (fun k => k = 18 ∨ k = 19 ∨ k = 20 ∨ k = 28 ∨ k = 29 ∨ k = 33 ∨ k = 34 ∨ k = 35 ∨ k = 36 ∨ k = 37 ∨ k = 38 ∨ k = 39 ∨ k = 40 ∨ k = 41 ∨ k = 42 ∨ k = 43) lg0 it0 lg17 it18 := kd_t K13 K18 (fun j hj => by first | omega | exact False.elim hj | (dsimp only at hj ⊢; omega)) (fun j hj => by first | omega | exact False.elim hj | (dsimp only at hj ⊢; omega))
        -- an end
        have stop : ∀ (e : Int32) (lg2 : LGt) (it2 : ITt), I9 lg2 it2 → Kd (fun j => j = 502 ∨ j = 503 ∨ j = 504 ∨ j = 505 ∨ j = 506 ∨ j = 507 ∨ j = 508 ∨ j = 509 ∨ j = 510 ∨ j = 511 ∨ j = 512) (fun k => k = 18 ∨ k = 19 ∨ k = 20 ∨ k = 28 ∨ k = 29 ∨ k = 33 ∨ k = 34 ∨ k = 35 ∨ k = 36 ∨ k = 37 ∨ k = 38 ∨ k = 39 ∨ k = 40 ∨ k = 41 ∨ k = 42 ∨ k = 43) lg0 it0 lg2 it2 → runA V (k + 1) = (e.toInt, (runA V k).2) → e.toInt ≠ 1 → it2 489 42 = it 489 42 → AK lg2 it2 V k → vm9 lg2 it2 = (runA V k).2.2 → ∀ (it3 it4 : ITt), it3 = u2 it2 489 43 e → it4 = u2 it3 489 20 0 → Pz lg2 it4 := by
          intro e lg2 it2 hJ2 hK2 hrn he h2 ha2 hv2 it3 it4 m3 m4
          subst hp
          refine ⟨⟨?_, ?_⟩, ?_⟩
          · rw [m4, m3]; exact i9_u (i9_u hJ2 (ok9_n rfl) (by decide) (fun _ => by decide)) (okb (Or.inl rfl)) (by decide) (fun _ => by decide)
          · rw [m4, m3]; exact kd_uf (by first | decide | (dsimp only; decide) | omega | (dsimp only; omega)) (kd_uf (by first | decide | (dsimp only; decide) | omega | (dsimp only; omega)) hK2)
          · refine gr_e hr hrn he hkm (by rw [m4, u2_eq]) (by rw [m4, u2_ne (by decide), m3, u2_ne (by decide), h2]; exact h42) (by rw [m4, u2_ne (by decide), m3, u2_eq]) (ak_e ha2 (by rw [m4, m3]; exact (u2_row (by decide)).trans (u2_row (by decide))) rfl rfl rfl rfl) (by rw [m4, vm9_u (by decide), m3, vm9_u (by decide)]; exact hv2)
        refine ⟨fun z => ?_, fun z => ⟨fun zv => ?_, fun zv => ?_⟩⟩
        · -- an OVER in looking
          unfold w_X9_goesOn_b57
          refine ⟨fun _ => ?_, fun z2 => absurd z2 z⟩
          unfold w_X9_goesOn_b69
          exact ⟨fun z2 => absurd z2 z, fun _ it48 m48 it50 m50 => stop 2 lg17 it18 J18 KK18 (by rw [ti_2]; exact run_o hr (hNR.2 z)) (by rw [ti_2]; decide) e42 A18 vm18 it48 it50 m48 m50⟩
        · -- a strike
          rw [Int32.le_iff_toInt_le, ti_0] at zv
          obtain ⟨w, hw, hnx⟩ := (hNR.1 z).resolve_left (fun q => by omega)
          have hp2 := nxt_pos hvo.1 hnx
          unfold w_X9_goesOn_b57
          refine ⟨fun z2 => absurd z z2, fun _ => ?_⟩
          refine ⟨_, f_X9_does v16 J18 (by rw [vm18]; exact hvo.1) z (by have q := congrArg (fun t : QQ => t.2.toInt) T18; dsimp only at q; rw [q]; exact hvo.2) hp2.2.1 w (by rw [vm18]; exact hw) (by rw [vm18]; exact hp2.1) (by rw [vm18]; exact hp2.2.2), ?_⟩
          intro lg34 it35 hq
          obtain ⟨⟨J35, K35⟩, _, hDS⟩ := hq
          rw [vm18, T18] at hDS
          have f42 : it35 489 42 = it 489 42 := (K35.2 42 (by first | decide | (dsimp only; decide) | omega | (dsimp only; omega))).2.trans e42
          have f43 : it35 489 43 = it 489 43 := (K35.2 43 (by first | decide | (dsimp only; decide) | omega | (dsimp only; omega))).2.trans e43
          have A35 : AK lg34 it35 V k := ak_k A18 K35 (fun j q => by first | omega | exact False.elim q | (dsimp only at q; omega))
          have KK35 : Kd (fun j => j = 502 ∨ j = 503 ∨ j = 504 ∨ j = 505 ∨ j = 506 ∨ j = 507 ∨ j = 508 ∨ j = 509 ∨ j = 510 ∨ j = 511 ∨ j = 512) (fun k => k = 18 ∨ k = 19 ∨ k = 20 ∨ k = 28 ∨ k = 29 ∨ k = 33 ∨ k = 34 ∨ k = 35 ∨ k = 36 ∨ k = 37 ∨ k = 38 ∨ k = 39 ∨ k = 40 ∨ k = 41 ∨ k = 42 ∨ k = 43) lg0 it0 lg34 it35 := kd_t KK18 K35 (fun j hj => by first | omega | exact False.elim hj | (dsimp only at hj ⊢; omega)) (fun j hj => by first | omega | exact False.elim hj | (dsimp only at hj ⊢; omega))
          unfold w_X9_goesOn_b69
          refine ⟨fun y => ?_, fun y it48 m48 it50 m50 => ?_⟩
          · obtain ⟨r, hst, hv2, hT2⟩ := hDS.1 y
            have hg := run_g hr hnx hst
            have hr2 : (runA V (k + 1)).1 = 1 := by rw [hg]
            have hv3 : vm9 lg34 it35 = (runA V (k + 1)).2.2 := by rw [hg]; exact hv2
            have hT3 : (lg34 489 28, lg34 489 29) = (runA V (k + 1)).2.1 := by rw [hg]; exact hT2
            have s35 : (it35 489 42).toNatClampNeg = k := by have q := cl32 (i := it35 489 42) (by rw [f42]; omega); rw [f42] at q ⊢; omega
            refine ⟨_, f_X9_keeps v16 J35 (by rw [f42]; omega), ?_⟩
            intro lg43 it44 hq
            obtain ⟨⟨J44, K44⟩, g42, hKP⟩ := hq
            rw [s35] at hKP
            have hn35 : (it35 489 0).toNatClampNeg = rN V := by
              have q : rN (vm9 lg34 it35) = rN (runA V (k + 1)).2.2 := by rw [hv3]
              exact q.trans (run_k V (k + 1)).1
            refine ih lg43 it44 J44 (kd_t KK35 K44 (fun j hj => by first | omega | exact False.elim hj | (dsimp only at hj ⊢; omega)) (fun j hj => by first | omega | exact False.elim hj | (dsimp only at hj ⊢; omega))) (k + 1) ⟨by rw [g42, f42, h42]; rfl, by rw [(K44.2 43 (by first | decide | (dsimp only; decide) | omega | (dsimp only; omega))).2, f43]; exact h43, hr2, ak_s A35 hKP hVO.1 (whr_w hnx hw) hT3 hv3 hn35, (vm9_k K44 (fun j q => by first | omega | exact False.elim q | (dsimp only at q; omega)) (fun j q => by first | omega | exact False.elim q | (dsimp only at q; omega))).trans hv3, by rw [(K44.2 28 (by first | decide | (dsimp only; decide) | omega | (dsimp only; omega))).1, (K44.2 29 (by first | decide | (dsimp only; decide) | omega | (dsimp only; omega))).1]; exact hT3⟩ (by omega) (by omega)
          · exact stop 2 lg34 it35 J35 KK35 (by rw [ti_2]; exact run_d hr hnx (hDS.2 y).1) (by rw [ti_2]; decide) f42 A35 (hDS.2 y).2 it48 it50 m48 m50
        · -- there is none
          rw [Int32.le_iff_toInt_le, ti_0] at zv
          have hnx := (hNR.1 z).elim (fun q => q.2) (fun ⟨w, q, _⟩ => absurd (cw_ge (runA V k).2.2 w) (by omega))
          intro it26 m26 it28 m28
          exact stop 0 lg17 it18 J18 KK18 (by rw [ti_0]; exact run_e hr hnx) (by rw [ti_0]; decide) e42 A18 vm18 it26 it28 m26 m28
  unfold w_X9_goesOn
  intro lg1 m1 lg3 m3 it5 m5 it7 m7
  have J7 : I9 lg3 it7 := by rw [m3, m1, m7, m5]; exact i9_l (i9_l (i9_u (i9_u hI (ok9_b (a := 0) (b := 20) rfl (by decide)) (by decide) (fun _ => by decide)) (ok9_n rfl) (by decide) (fun _ => by decide)) (by decide) (by decide) (by decide)) (by decide) (by decide) (by decide)
  have K7 : Kd (fun j => j = 502 ∨ j = 503 ∨ j = 504 ∨ j = 505 ∨ j = 506 ∨ j = 507 ∨ j = 508 ∨ j = 509 ∨ j = 510 ∨ j = 511 ∨ j = 512) (fun k => k = 18 ∨ k = 19 ∨ k = 20 ∨ k = 28 ∨ k = 29 ∨ k = 33 ∨ k = 34 ∨ k = 35 ∨ k = 36 ∨ k = 37 ∨ k = 38 ∨ k = 39 ∨ k = 40 ∨ k = 41 ∨ k = 42 ∨ k = 43) lg0 it0 lg3 it7 := by rw [m3, m1, m7, m5]; exact kd_lf (by first | decide | (dsimp only; decide) | omega | (dsimp only; omega)) (kd_lf (by first | decide | (dsimp only; decide) | omega | (dsimp only; omega)) (kd_uf (by first | decide | (dsimp only; decide) | omega | (dsimp only; omega)) (kd_uf (by first | decide | (dsimp only; decide) | omega | (dsimp only; omega)) kd_r)))
  have r3 (j : Nat) (h : j ≠ 489) : lg3 j = lg0 j := by rw [m3, u2_row h, m1, u2_row h]
  refine ⟨_, lp 21 lg3 it7 J7 K7 0 ⟨by rw [m7, u2_ne (by decide), m5, u2_eq]; exact ti_0, by rw [m7, u2_eq]; exact ti_1, rfl, fun s hs => absurd hs (Nat.not_lt_zero _), ?_, ?_⟩ (Nat.zero_le _) (by omega)⟩
  · rw [m7, vm9_u (by decide), m5, vm9_u (by decide), ← hV]
    unfold vm9
    rw [r3 502 (by decide), r3 503 (by decide), r3 504 (by decide), r3 505 (by decide)]
    rfl
  · rw [m3, u2_ne (by decide), m1, u2_eq, u2_eq]; rfl
theorem f_X9_minds {lg0 : LGt} {it0 : ITt} (hI : I9 lg0 it0) : w_X9_minds (fun (lg' : LGt) (it' : ITt) => (I9 lg' it' ∧ Kd (fun j => j = 501 ∨ j = 502 ∨ j = 503 ∨ j = 504 ∨ j = 505) (fun k => k = 30 ∨ k = 31 ∨ k = 32) lg0 it0 lg' it') ∧ vm9 lg' it' = vw9 lg0 it0) lg0 it0 := by
  generalize hp : (fun (lg' : LGt) (it' : ITt) => (I9 lg' it' ∧ Kd (fun j => j = 501 ∨ j = 502 ∨ j = 503 ∨ j = 504 ∨ j = 505) (fun k => k = 30 ∨ k = 31 ∨ k = 32) lg0 it0 lg' it') ∧ vm9 lg' it' = vw9 lg0 it0) = Pz
  have f0 := i9_f hI (j := 489) (k := 0) rfl
  have hkn := cl32 (i := it0 489 0) f0.1
  unfold w_X9_minds
  have lp : ∀ (n : Nat) (x : Int32) (lg : LGt) (it : ITt), I9 lg it → Kd (fun j => j = 501 ∨ j = 502 ∨ j = 503 ∨ j = 504 ∨ j = 505) (fun k => k = 30 ∨ k = 31 ∨ k = 32) lg0 it0 lg it → (it 489 1 = it0 489 1 ∧ it 489 2 = it0 489 2 ∧ it 489 3 = it0 489 3) → (∀ k : Nat, k < x.toNatClampNeg → lg 502 k = lg0 491 k ∧ lg 503 k = lg0 492 k ∧ lg 504 k = lg0 493 k ∧ lg 505 k = lg0 494 k ∧ it 501 k = it0 490 k) → (0 ≤ x.toInt ∧ x.toInt ≤ 6) → (7 - x.toInt).toNat < n → w_X9_minds_b2 Pz n x lg it := by
    intro n
    induction n with
    | zero => intro x lg it _ _ _ _ _ hn; exact absurd hn (Nat.not_lt_zero _)
    | succ n ih =>
      intro x lg it hJ hK hf h hx hn
      have hkx := cl32 hx.1
      unfold w_X9_minds_b2
      refine ⟨fun c => ?_, fun c => ?_⟩
      · rw [Int32.le_iff_toInt_le, ti_6] at c
        intro it3 m3 it5 m5 it7 m7
        subst hp
        have e0 : it 489 0 = it0 489 0 := (hK.2 0 (by first | decide | (dsimp only; decide) | omega | (dsimp only; omega))).2
        refine ⟨⟨?_, ?_⟩, ?_⟩
        · rw [m7, m5, m3]; exact i9_u (i9_u (i9_u hJ (ok9_n rfl) (by decide) (fun _ => by decide)) (ok9_n rfl) (by decide) (fun _ => by decide)) (ok9_n rfl) (by decide) (fun _ => by decide)
        · rw [m7, m5, m3]; exact kd_uf (by first | decide | (dsimp only; decide) | omega | (dsimp only; omega)) (kd_uf (by first | decide | (dsimp only; decide) | omega | (dsimp only; omega)) (kd_uf (by first | decide | (dsimp only; decide) | omega | (dsimp only; omega)) hK))
        · have q0 : it7 489 0 = it0 489 0 := by rw [m7, u2_ne (by decide), m5, u2_ne (by decide), m3, u2_ne (by decide)]; exact e0
          have q30 : it7 489 30 = it0 489 1 := by rw [m7, u2_ne (by decide), m5, u2_ne (by decide), m3, u2_eq]; exact hf.1
          have q31 : it7 489 31 = it0 489 2 := by rw [m7, u2_ne (by decide), m5, u2_eq, m3, u2_ne (by decide)]; exact hf.2.1
          have q32 : it7 489 32 = it0 489 3 := by rw [m7, u2_eq, m5, u2_ne (by decide), m3, u2_ne (by decide)]; exact hf.2.2
          have q5 : it7 501 = it 501 := by rw [m7, u2_row (by decide), m5, u2_row (by decide), m3, u2_row (by decide)]
          unfold vm9 vw9
          rw [q0, q30, q31, q32, q5]
          have eM : (fun i => if i < (it0 489 0).toNatClampNeg then it 501 i else 0) = (fun i => if i < (it0 489 0).toNatClampNeg then it0 490 i else 0) := by
            funext i
            split
            · exact (h i (by omega)).2.2.2.2
            · rfl
          have eP : (fun i => if i < (it0 489 0).toNatClampNeg then (lg 502 i, lg 503 i) else ((0, 1) : QQ)) = (fun i => if i < (it0 489 0).toNatClampNeg then (lg0 491 i, lg0 492 i) else (0, 1)) := by
            funext i
            split
            · rw [(h i (by omega)).1, (h i (by omega)).2.1]
            · rfl
          have eS : (fun i => if i < (it0 489 0).toNatClampNeg then (lg 504 i, lg 505 i) else ((0, 1) : QQ)) = (fun i => if i < (it0 489 0).toNatClampNeg then (lg0 493 i, lg0 494 i) else (0, 1)) := by
            funext i
            split
            · rw [(h i (by omega)).2.2.1, (h i (by omega)).2.2.2.1]
            · rfl
          rw [eM, eP, eS]
      · rw [Int32.le_iff_toInt_le, ti_6] at c
        have hv : vp_in x 6 := vp_of hx.1 (by omega)
        have e491 : lg 491 = lg0 491 := (hK.1 491 (by decide) (by first | decide | (dsimp only; decide) | omega | (dsimp only; omega))).1
        have e492 : lg 492 = lg0 492 := (hK.1 492 (by decide) (by first | decide | (dsimp only; decide) | omega | (dsimp only; omega))).1
        have e493 : lg 493 = lg0 493 := (hK.1 493 (by decide) (by first | decide | (dsimp only; decide) | omega | (dsimp only; omega))).1
        have e494 : lg 494 = lg0 494 := (hK.1 494 (by decide) (by first | decide | (dsimp only; decide) | omega | (dsimp only; omega))).1
        have e490 : it 490 = it0 490 := (hK.1 490 (by decide) (by first | decide | (dsimp only; decide) | omega | (dsimp only; omega))).2
        refine ⟨hv, hv, fun it11 m11 => ⟨hv, hv, fun lg15 m15 => ⟨hv, hv, fun lg19 m19 => ⟨hv, hv, fun lg23 m23 => ⟨hv, hv, fun lg27 m27 => ?_⟩⟩⟩⟩⟩
        have J : I9 lg27 it11 := by rw [m27, m23, m19, m15, m11]; exact i9_l (i9_l (i9_l (i9_l (i9_u hJ (ok9_n rfl) (by decide) (fun q => absurd q (by decide))) (by decide) (by decide) (by decide)) (by decide) (by decide) (by decide)) (by decide) (by decide) (by decide)) (by decide) (by decide) (by decide)
        have K : Kd (fun j => j = 501 ∨ j = 502 ∨ j = 503 ∨ j = 504 ∨ j = 505) (fun k => k = 30 ∨ k = 31 ∨ k = 32) lg0 it0 lg27 it11 := by rw [m27, m23, m19, m15, m11]; exact kd_lr (by decide) (by first | decide | (dsimp only; decide) | omega | (dsimp only; omega)) (kd_lr (by decide) (by first | decide | (dsimp only; decide) | omega | (dsimp only; omega)) (kd_lr (by decide) (by first | decide | (dsimp only; decide) | omega | (dsimp only; omega)) (kd_lr (by decide) (by first | decide | (dsimp only; decide) | omega | (dsimp only; omega)) (kd_ur (by decide) (by first | decide | (dsimp only; decide) | omega | (dsimp only; omega)) hK))))
        have fx : (x + 1).toInt = x.toInt + 1 := ad32 rfl ti_1 (by omega) (by omega)
        have A2 : lg27 502 = u2 lg 502 x.toNatClampNeg (lg 491 x.toNatClampNeg) 502 := by rw [m27, u2_row (by decide), m23, u2_row (by decide), m19, u2_row (by decide), m15]
        have A3 : lg27 503 = u2 lg15 503 x.toNatClampNeg (lg15 492 x.toNatClampNeg) 503 := by rw [m27, u2_row (by decide), m23, u2_row (by decide), m19]
        have A4 : lg27 504 = u2 lg19 504 x.toNatClampNeg (lg19 493 x.toNatClampNeg) 504 := by rw [m27, u2_row (by decide), m23]
        have A5 : lg27 505 = u2 lg23 505 x.toNatClampNeg (lg23 494 x.toNatClampNeg) 505 := by rw [m27]
        have B3 : lg15 492 = lg 492 ∧ lg15 503 = lg 503 := by rw [m15]; exact ⟨u2_row (by decide), u2_row (by decide)⟩
        have B4 : lg19 493 = lg 493 ∧ lg19 504 = lg 504 := by rw [m19, m15]; exact ⟨(u2_row (by decide)).trans (u2_row (by decide)), (u2_row (by decide)).trans (u2_row (by decide))⟩
        have B5 : lg23 494 = lg 494 ∧ lg23 505 = lg 505 := by rw [m23, m19, m15]; exact ⟨(u2_row (by decide)).trans ((u2_row (by decide)).trans (u2_row (by decide))), (u2_row (by decide)).trans ((u2_row (by decide)).trans (u2_row (by decide)))⟩
        have C : it11 501 = u2 it 501 x.toNatClampNeg (it 490 x.toNatClampNeg) 501 := by rw [m11]
        refine ih (x + 1) lg27 it11 J K (by rw [m11]; exact ⟨(congrFun (u2_row (by decide)) 1).trans hf.1, (congrFun (u2_row (by decide)) 2).trans hf.2.1, (congrFun (u2_row (by decide)) 3).trans hf.2.2⟩) (fun k hk => ?_) (by omega) (by omega)
        rw [cl_add1 hx.1 (by omega)] at hk
        rw [A2, A3, A4, A5, C, B3.1, B4.1, B5.1]
        by_cases z : k = x.toNatClampNeg
        · rw [z, u2_eq, u2_eq, u2_eq, u2_eq, u2_eq, e491, e492, e493, e494, e490]; exact ⟨rfl, rfl, rfl, rfl, rfl⟩
        · rw [u2_ne z, u2_ne z, u2_ne z, u2_ne z, u2_ne z, B3.2, B4.2, B5.2]; exact h k (by omega)
  exact ⟨_, lp ((7 - (0 : Int32).toInt).toNat + 1) 0 lg0 it0 hI kd_r ⟨rfl, rfl, rfl⟩ (fun k hk => absurd hk (Nat.not_lt_zero _)) (by rw [ti_0]; omega) (Nat.lt_succ_self _)⟩
theorem f_X9_findAll {lg0 : LGt} {it0 : ITt} (hI : I9 lg0 it0) (hVO : VO (vw9 lg0 it0)) : w_X9_findAll (fun (lg' : LGt) (it' : ITt) => (I9 lg' it' ∧ Kd (fun j => j = 501 ∨ j = 502 ∨ j = 503 ∨ j = 504 ∨ j = 505 ∨ j = 506 ∨ j = 507 ∨ j = 508 ∨ j = 509 ∨ j = 510 ∨ j = 511 ∨ j = 512) (fun k => k = 18 ∨ k = 19 ∨ k = 20 ∨ k = 28 ∨ k = 29 ∨ k = 30 ∨ k = 31 ∨ k = 32 ∨ k = 33 ∨ k = 34 ∨ k = 35 ∨ k = 36 ∨ k = 37 ∨ k = 38 ∨ k = 39 ∨ k = 40 ∨ k = 41 ∨ k = 42 ∨ k = 43) lg0 it0 lg' it') ∧ GR lg' it' (vw9 lg0 it0) 20) lg0 it0 := by
  unfold w_X9_findAll
  refine ⟨_, f_X9_minds hI, ?_⟩
  intro lg3 it4 hq
  obtain ⟨⟨hI3, hK3⟩, hv⟩ := hq
  refine ⟨_, f_X9_goesOn (20 : Int32) hI3 (by rw [hv]; exact hVO) (by rw [ti_20]; decide), ?_⟩
  intro lg10 it11 hq
  obtain ⟨⟨hI10, hK10⟩, hg⟩ := hq
  rw [hv] at hg
  exact ⟨⟨hI10, kd_t (kd_t kd_r hK3 (fun j hj => by first | omega | exact False.elim hj | (dsimp only at hj ⊢; omega)) (fun j hj => by first | omega | exact False.elim hj | (dsimp only at hj ⊢; omega))) hK10 (fun j hj => by first | omega | exact False.elim hj | (dsimp only at hj ⊢; omega)) (fun j hj => by first | omega | exact False.elim hj | (dsimp only at hj ⊢; omega))⟩, hg⟩
