/-! the second side: a strike is done -/
theorem vm9_fin {lg lg' : LGt} {it it' : ITt} {V : Rlv} {d : QQ} {w : Nat} (hvm : vm9 lg it = V) (hit : it' = it) (hP : ∀ j, j < rN V → (lg' 502 j, lg' 503 j) = qg (mvP V d j)) (hS : ∀ j, j < rN V → (lg' 504 j, lg' 505 j) = qg (nsp V w j)) : vm9 lg' it' = (rN V, rM V, cutF (rN V) (mvP V d), cutF (rN V) (nsp V w), rE V, rA V, rB V) := by
  subst hit
  have n0 : rN V = (it' 489 0).toNatClampNeg := by rw [← hvm]; rfl
  have eM : rM V = (fun i => if i < rN V then it' 501 i else 0) := by rw [n0, ← hvm]; rfl
  have eE : rE V = it' 489 30 := by rw [← hvm]; rfl
  have eA : rA V = it' 489 31 := by rw [← hvm]; rfl
  have eB : rB V = it' 489 32 := by rw [← hvm]; rfl
  have eP : (fun i => if i < rN V then (lg' 502 i, lg' 503 i) else ((0, 1) : QQ)) = cutF (rN V) (mvP V d) := by
    funext i
    unfold cutF
    split
    · rename_i c; exact hP i c
    · rfl
  have eS : (fun i => if i < rN V then (lg' 504 i, lg' 505 i) else ((0, 1) : QQ)) = cutF (rN V) (nsp V w) := by
    funext i
    unfold cutF
    split
    · rename_i c; exact hS i c
    · rfl
  unfold vm9
  rw [← n0, eP, eS, ← eM, ← eE, ← eA, ← eB]
theorem f_X9_becomes (a1 : Int32) (a2 a3 : Int64) {lg : LGt} {it : ITt} (hi : 0 ≤ a1.toInt ∧ a1.toInt ≤ 5) : w_X9_becomes a1 a2 a3 (fun (lg' : LGt) (it' : ITt) => lg' = u2 (u2 lg 504 a1.toNatClampNeg a2) 505 a1.toNatClampNeg a3 ∧ it' = it) lg it := by
  unfold w_X9_becomes
  have hv : vp_in a1 6 := vp_of (by omega) (by omega)
  exact ⟨hv, fun lg1 m1 => ⟨hv, fun lg2 m2 => ⟨by rw [m2, m1], rfl⟩⟩⟩
def DS (lg : LGt) (it : ITt) (V : Rlv) (T d : QQ) (w : Nat) : Prop := (it 489 20 = 0 → ∃ r, stpd V T w d = some r ∧ vm9 lg it = r.2 ∧ (lg 489 28, lg 489 29) = r.1) ∧ (¬ it 489 20 = 0 → stpd V T w d = none ∧ vm9 lg it = V)
/-- the one whose speed oneUp, oneDown is -/
def w1 (w : Nat) : Nat := if w = 0 then 0 else w - 1
def CP (lg0 lg : LGt) (k : Nat) : Prop := (∀ j, j < k → lg 502 j = lg0 506 j ∧ lg 503 j = lg0 507 j) ∧ lg 506 = lg0 506 ∧ lg 507 = lg0 507 ∧ lg 504 = lg0 504 ∧ lg 505 = lg0 505 ∧ (lg 489 38 = lg0 489 38 ∧ lg 489 39 = lg0 489 39 ∧ lg 489 40 = lg0 489 40 ∧ lg 489 41 = lg0 489 41) ∧ lg 489 28 = lg0 489 36 ∧ lg 489 29 = lg0 489 37
theorem cp_s {lg0 lg lg1 lg2 : LGt} {k : Nat} (h : CP lg0 lg k) (e1 : lg1 = u2 lg 502 k (lg 506 k)) (e2 : lg2 = u2 lg1 503 k (lg1 507 k)) : CP lg0 lg2 (k + 1) := by
  obtain ⟨a, b, c, d, e, ⟨f1, f2, f3, f4⟩, g1, g2⟩ := h
  have r (j : Nat) (h2 : j ≠ 502) (h3 : j ≠ 503) : lg2 j = lg j := by rw [e2, u2_row h3, e1, u2_row h2]
  refine ⟨fun j hj => ?_, (r 506 (by decide) (by decide)).trans b, (r 507 (by decide) (by decide)).trans c, (r 504 (by decide) (by decide)).trans d, (r 505 (by decide) (by decide)).trans e, ⟨?_, ?_, ?_, ?_⟩, ?_, ?_⟩
  · by_cases z : j = k
    · subst z
      constructor
      · rw [e2, u2_row (by decide), e1, u2_eq, b]
      · rw [e2, u2_eq, e1, u2_row (by decide), c]
    · have := a j (by omega)
      constructor
      · rw [e2, u2_row (by decide), e1, u2_ne z]; exact this.1
      · rw [e2, u2_ne z, e1, u2_row (by decide)]; exact this.2
  all_goals rw [r 489 (by decide) (by decide)]; assumption
theorem does_tail (a1 : Int32) {V : Rlv} {T d : QQ} {w : Nat} {lg0 lg : LGt} {it0 it : ITt} (hI : I9 lg it) (hK : Kd (fun j => j = 502 ∨ j = 503 ∨ j = 504 ∨ j = 505 ∨ j = 506 ∨ j = 507) (fun k => k = 18 ∨ k = 19 ∨ k = 20 ∨ k = 28 ∨ k = 29 ∨ k = 36 ∨ k = 37 ∨ k = 38 ∨ k = 39 ∨ k = 40 ∨ k = 41) lg0 it0 lg it) (hvm : vm9 lg it = V) (hVO : VO V) (hTp : 0 < T.2.toInt) (hdp : 0 < d.2.toInt) (h29 : ¬ lg 489 29 = 0) (hw : a1.toInt = cw V w) (hwl : w ≤ rN V) (hn1 : 1 ≤ rN V) (hT1 : Sv (it 489 20) (lg 489 36) (lg 489 37) (oP (some T) (some d))) (hAR : AR lg (it 489 20) 506 507 (rN V) (mvP V d)) (hov : ¬ it 489 20 = 0 → stpd V T w d = none) (hone : it 489 20 = 0 → nsp V w (w1 w) = some (lg 489 38, lg 489 39)) (hoth : it 489 20 = 0 → ¬ w = 0 → ¬ w = rN V → nsp V w w = some (lg 489 40, lg 489 41)) : w_X9_does_b50 a1 (fun (lg' : LGt) (it' : ITt) => (I9 lg' it' ∧ Kd (fun j => j = 502 ∨ j = 503 ∨ j = 504 ∨ j = 505 ∨ j = 506 ∨ j = 507) (fun k => k = 18 ∨ k = 19 ∨ k = 20 ∨ k = 28 ∨ k = 29 ∨ k = 36 ∨ k = 37 ∨ k = 38 ∨ k = 39 ∨ k = 40 ∨ k = 41) lg0 it0 lg' it') ∧ ((T9 lg' it' ∧ ¬ lg' 489 29 = 0) ∧ DS lg' it' V T d w)) lg it := by
  generalize hp : (fun (lg' : LGt) (it' : ITt) => (I9 lg' it' ∧ Kd (fun j => j = 502 ∨ j = 503 ∨ j = 504 ∨ j = 505 ∨ j = 506 ∨ j = 507) (fun k => k = 18 ∨ k = 19 ∨ k = 20 ∨ k = 28 ∨ k = 29 ∨ k = 36 ∨ k = 37 ∨ k = 38 ∨ k = 39 ∨ k = 40 ∨ k = 41) lg0 it0 lg' it') ∧ ((T9 lg' it' ∧ ¬ lg' 489 29 = 0) ∧ DS lg' it' V T d w)) = Pz
  have f0 := i9_f hI (j := 489) (k := 0) rfl
  have hkn := cl32 (i := it 489 0) f0.1
  have hN : rN V = (it 489 0).toNatClampNeg := by rw [← hvm]; rfl
  have h6 : rN V ≤ 6 := hVO.1
  have ne0 : ∀ {x : Int64}, 0 < x.toInt → ¬ x = 0 := fun q e => by rw [e] at q; exact absurd q (by decide)
  unfold w_X9_does_b50
  refine ⟨fun c => ?_, fun c => ?_⟩
  · -- no OVER: all of it is so
    have hC2 := (hT1 c).1
    have sP : alls (rN V) (mvP V d) := fun j hj => by rw [((hAR j hj) c).1]; rfl
    have hw1n : w1 w < rN V := by unfold w1; split <;> omega
    have hrest : ∀ j, ¬ j = w1 w → (w = 0 ∨ w = rN V ∨ ¬ j = w) → nsp V w j = some (rS V j) := by
      intro j h1 h2
      by_cases z : w = 0
      · subst z; exact nsp_0o (by unfold w1 at h1; rw [if_pos rfl] at h1; exact h1)
      · unfold w1 at h1
        rw [if_neg z] at h1
        by_cases z2 : w = rN V
        · exact nsp_no z z2 h1
        · exact nsp_o z z2 h1 (h2.resolve_left z |>.resolve_left z2)
    have sS : alls (rN V) (nsp V w) := by
      intro j hj
      by_cases z : j = w1 w
      · rw [z, hone c]; rfl
      · by_cases z0 : w = 0
        · rw [hrest j z (Or.inl z0)]; rfl
        · by_cases z2 : w = rN V
          · rw [hrest j z (Or.inr (Or.inl z2))]; rfl
          · by_cases z3 : j = w
            · rw [z3, hoth c z0 z2]; rfl
            · rw [hrest j z (Or.inr (Or.inr z3))]; rfl
    have hst := stp_y (V := V) (T := T) (w := w) (d := d) hC2 sP sS
    have hvo := stp_vo hVO hTp hdp hwl hst
    -- the end: what the memory then is
    have fin : ∀ (lg' : LGt), I9 lg' it → Kd (fun j => j = 502 ∨ j = 503 ∨ j = 504 ∨ j = 505 ∨ j = 506 ∨ j = 507) (fun k => k = 18 ∨ k = 19 ∨ k = 20 ∨ k = 28 ∨ k = 29 ∨ k = 36 ∨ k = 37 ∨ k = 38 ∨ k = 39 ∨ k = 40 ∨ k = 41) lg0 it0 lg' it → (∀ j, j < rN V → lg' 502 j = lg 506 j ∧ lg' 503 j = lg 507 j) → (∀ j, j < rN V → (lg' 504 j, lg' 505 j) = qg (nsp V w j)) → lg' 489 28 = lg 489 36 → lg' 489 29 = lg 489 37 → Pz lg' it := by
      intro lg' hJ hK' hP hS h28 h29'
      subst hp
      have hv : vm9 lg' it = (rN V, rM V, cutF (rN V) (mvP V d), cutF (rN V) (nsp V w), rE V, rA V, rB V) := vm9_fin hvm rfl (fun j hj => by rw [(hP j hj).1, (hP j hj).2, ((hAR j hj) c).1]; rfl) hS
      refine ⟨⟨hJ, hK'⟩, ⟨T9_v (by rw [hv]; exact hvo.1), ?_⟩, fun _ => ⟨_, hst, hv, by rw [h28, h29']⟩, fun z => absurd c z⟩
      rw [h29']
      exact ne0 (hT1 c).2
    intro lg35 m35 lg37 m37
    have J37 : I9 lg37 it := by rw [m37, m35]; exact i9_l (i9_l hI (by decide) (by decide) (by decide)) (by decide) (by decide) (by decide)
    have K37 : Kd (fun j => j = 502 ∨ j = 503 ∨ j = 504 ∨ j = 505 ∨ j = 506 ∨ j = 507) (fun k => k = 18 ∨ k = 19 ∨ k = 20 ∨ k = 28 ∨ k = 29 ∨ k = 36 ∨ k = 37 ∨ k = 38 ∨ k = 39 ∨ k = 40 ∨ k = 41) lg0 it0 lg37 it := by rw [m37, m35]; exact kd_lf (by first | decide | (dsimp only; decide) | omega | (dsimp only; omega)) (kd_lf (by first | decide | (dsimp only; decide) | omega | (dsimp only; omega)) hK)
    have C37 : CP lg lg37 0 := by
      have r (j : Nat) (h : j ≠ 489) : lg37 j = lg j := by rw [m37, u2_row h, m35, u2_row h]
      have q (k : Nat) (h1 : k ≠ 28) (h2 : k ≠ 29) : lg37 489 k = lg 489 k := by rw [m37, u2_ne h2, m35, u2_ne h1]
      exact ⟨fun j hj => absurd hj (Nat.not_lt_zero _), r _ (by decide), r _ (by decide), r _ (by decide), r _ (by decide), ⟨q _ (by decide) (by decide), q _ (by decide) (by decide), q _ (by decide) (by decide), q _ (by decide) (by decide)⟩, by rw [m37, u2_ne (by decide), m35, u2_eq], by rw [m37, u2_eq, m35, u2_ne (by decide)]⟩
    -- the speeds
    have fin2 : ∀ (s0 : Int32) (lg' : LGt), s0.toNatClampNeg = w1 w → 0 ≤ s0.toInt ∧ s0.toInt ≤ 5 → I9 lg' it → Kd (fun j => j = 502 ∨ j = 503 ∨ j = 504 ∨ j = 505 ∨ j = 506 ∨ j = 507) (fun k => k = 18 ∨ k = 19 ∨ k = 20 ∨ k = 28 ∨ k = 29 ∨ k = 36 ∨ k = 37 ∨ k = 38 ∨ k = 39 ∨ k = 40 ∨ k = 41) lg0 it0 lg' it → CP lg lg' (rN V) → w_X9_does_b141 a1 Pz s0 lg' it := by
      intro s0 lg' hs0 hs5 hJ hK' hC
      obtain ⟨cp, c506, c507, c504, c505, ⟨c38, c39, c40, c41⟩, c28, c29⟩ := hC
      unfold w_X9_does_b141
      refine ⟨_, f_X9_becomes s0 _ _ hs5, ?_⟩
      intro lg57 it58 hq
      obtain ⟨m57, rfl⟩ := hq
      have J57 : I9 lg57 it58 := by rw [m57]; exact i9_l (i9_l hJ (by decide) (by decide) (by decide)) (by decide) (by decide) (by decide)
      have K57 : Kd (fun j => j = 502 ∨ j = 503 ∨ j = 504 ∨ j = 505 ∨ j = 506 ∨ j = 507) (fun k => k = 18 ∨ k = 19 ∨ k = 20 ∨ k = 28 ∨ k = 29 ∨ k = 36 ∨ k = 37 ∨ k = 38 ∨ k = 39 ∨ k = 40 ∨ k = 41) lg0 it0 lg57 it58 := by rw [m57]; exact kd_lr (by decide) (by first | decide | (dsimp only; decide) | omega | (dsimp only; omega)) (kd_lr (by decide) (by first | decide | (dsimp only; decide) | omega | (dsimp only; omega)) hK')
      have r57 (j : Nat) (h4 : j ≠ 504) (h5 : j ≠ 505) : lg57 j = lg' j := by rw [m57, u2_row h5, u2_row h4]
      have s57 (j : Nat) : (lg57 504 j, lg57 505 j) = if j = w1 w then (lg 489 38, lg 489 39) else (lg 504 j, lg 505 j) := by
        rw [m57, u2_row (by decide), hs0]
        by_cases z : j = w1 w
        · rw [if_pos z, z, u2_eq, u2_eq, c38, c39]
        · rw [if_neg z, u2_ne z, u2_ne z, u2_row (by decide), c504, c505]
      have s0S (j : Nat) (hj : j < rN V) : (lg 504 j, lg 505 j) = rS V j := by
        rw [hN] at hj
        rw [← hvm, mS_lt hj]
      -- a wall
      have wall : (w = 0 ∨ w = rN V) → Pz lg57 it58 := by
        intro hwall
        refine fin lg57 J57 K57 (fun j hj => by rw [r57 _ (by decide) (by decide), r57 _ (by decide) (by decide)]; exact cp j hj) (fun j hj => ?_) (by rw [r57 _ (by decide) (by decide)]; exact c28) (by rw [r57 _ (by decide) (by decide)]; exact c29)
        rw [s57]
        by_cases z : j = w1 w
        · rw [if_pos z, z, hone c]; rfl
        · rw [if_neg z, hrest j z (hwall.imp id Or.inl), s0S j hj]; rfl
      refine ⟨fun z => wall ?_, fun z => ⟨fun z9 => wall ?_, fun z9 => ?_⟩⟩
      · exact Or.inl (cw_w0 hw (by rw [z, ti_0]) hwl h6).1
      · exact Or.inr (cw_w9 hw (by rw [z9, ti_9]) hwl h6)
      · have hm := cw_wm hw (fun q => z (Int32.toInt_inj.mp (q.trans ti_0.symm))) (fun q => z9 (Int32.toInt_inj.mp (q.trans ti_9.symm)))
        have ha1 : a1.toNatClampNeg = w := by have := cl32 (i := a1) (by omega); omega
        refine ⟨_, f_X9_becomes a1 _ _ (by omega), ?_⟩
        intro lg68 it69 hq
        obtain ⟨m68, rfl⟩ := hq
        have J68 : I9 lg68 it69 := by rw [m68]; exact i9_l (i9_l J57 (by decide) (by decide) (by decide)) (by decide) (by decide) (by decide)
        have K68 : Kd (fun j => j = 502 ∨ j = 503 ∨ j = 504 ∨ j = 505 ∨ j = 506 ∨ j = 507) (fun k => k = 18 ∨ k = 19 ∨ k = 20 ∨ k = 28 ∨ k = 29 ∨ k = 36 ∨ k = 37 ∨ k = 38 ∨ k = 39 ∨ k = 40 ∨ k = 41) lg0 it0 lg68 it69 := by rw [m68]; exact kd_lr (by decide) (by first | decide | (dsimp only; decide) | omega | (dsimp only; omega)) (kd_lr (by decide) (by first | decide | (dsimp only; decide) | omega | (dsimp only; omega)) K57)
        have r68 (j : Nat) (h4 : j ≠ 504) (h5 : j ≠ 505) : lg68 j = lg' j := by rw [m68, u2_row h5, u2_row h4]; exact r57 j h4 h5
        refine fin lg68 J68 K68 (fun j hj => by rw [r68 _ (by decide) (by decide), r68 _ (by decide) (by decide)]; exact cp j hj) (fun j hj => ?_) (by rw [r68 _ (by decide) (by decide)]; exact c28) (by rw [r68 _ (by decide) (by decide)]; exact c29)
        have e68 : (lg68 504 j, lg68 505 j) = if j = w then (lg 489 40, lg 489 41) else (lg57 504 j, lg57 505 j) := by
          rw [m68, u2_row (by decide), ha1]
          by_cases z3 : j = w
          · rw [if_pos z3, z3, u2_eq, u2_eq, r57 489 (by decide) (by decide), c40, c41]
          · rw [if_neg z3, u2_ne z3, u2_ne z3, u2_row (by decide)]
        rw [e68]
        by_cases z3 : j = w
        · rw [if_pos z3, z3, hoth c hm.1 hm.2.1]; rfl
        · rw [if_neg z3, s57]
          by_cases z4 : j = w1 w
          · rw [if_pos z4, z4, hone c]; rfl
          · rw [if_neg z4, hrest j z4 (Or.inr (Or.inr z3)), s0S j hj]; rfl
    have lp : ∀ (n : Nat) (x : Int32) (lg' : LGt), I9 lg' it → Kd (fun j => j = 502 ∨ j = 503 ∨ j = 504 ∨ j = 505 ∨ j = 506 ∨ j = 507) (fun k => k = 18 ∨ k = 19 ∨ k = 20 ∨ k = 28 ∨ k = 29 ∨ k = 36 ∨ k = 37 ∨ k = 38 ∨ k = 39 ∨ k = 40 ∨ k = 41) lg0 it0 lg' it → CP lg lg' x.toNatClampNeg → (0 ≤ x.toInt ∧ x.toInt ≤ (it 489 0).toInt) → (7 - x.toInt).toNat < n → w_X9_does_b76 a1 Pz n x lg' it := by
      intro n
      induction n with
      | zero => intro x lg' _ _ _ _ hn; exact absurd hn (Nat.not_lt_zero _)
      | succ n ih =>
        intro x lg' hJ hK' hC hx hn
        have hkx := cl32 hx.1
        unfold w_X9_does_b76
        refine ⟨fun cx => ?_, fun cx => ?_⟩
        · rw [Int32.le_iff_toInt_le] at cx
          have hC2 : CP lg lg' (rN V) := by rw [hN, ← show x.toNatClampNeg = (it 489 0).toNatClampNeg by omega]; exact hC
          refine ⟨fun z => ⟨fun z9 => ?_, fun z9 => ?_⟩, fun z => ?_⟩
          · have hm := cw_wm hw (fun q => z (Int32.toInt_inj.mp (q.trans ti_0.symm))) (fun q => z9 (Int32.toInt_inj.mp (q.trans ti_9.symm)))
            have ea : (a1 - 1).toInt = a1.toInt - 1 := sb32 rfl ti_1 (by omega) (by omega)
            have e2 := cl32 (i := a1 - 1) (by omega)
            exact fin2 _ _ (by unfold w1; rw [if_neg hm.1]; omega) (by omega) hJ hK' hC2
          · have hm := cw_w9 hw (by rw [z9, ti_9]) hwl h6
            have ea : (it 489 0 - 1).toInt = (it 489 0).toInt - 1 := sb32 rfl ti_1 (by omega) (by omega)
            have e2 := cl32 (i := it 489 0 - 1) (by omega)
            exact fin2 _ _ (by unfold w1; rw [if_neg (by omega)]; omega) (by omega) hJ hK' hC2
          · have hm := cw_w0 hw (by rw [z, ti_0]) hwl h6
            exact fin2 _ _ (by unfold w1; rw [if_pos hm.1]; rfl) (by rw [ti_0]; omega) hJ hK' hC2
        · rw [Int32.le_iff_toInt_le] at cx
          have hv : vp_in x 6 := vp_of hx.1 (by omega)
          refine ⟨hv, hv, fun lg47 m47 => ⟨hv, hv, fun lg51 m51 => ?_⟩⟩
          have J51 : I9 lg51 it := by rw [m51, m47]; exact i9_l (i9_l hJ (by decide) (by decide) (by decide)) (by decide) (by decide) (by decide)
          have K51 : Kd (fun j => j = 502 ∨ j = 503 ∨ j = 504 ∨ j = 505 ∨ j = 506 ∨ j = 507) (fun k => k = 18 ∨ k = 19 ∨ k = 20 ∨ k = 28 ∨ k = 29 ∨ k = 36 ∨ k = 37 ∨ k = 38 ∨ k = 39 ∨ k = 40 ∨ k = 41) lg0 it0 lg51 it := by rw [m51, m47]; exact kd_lr (by decide) (by first | decide | (dsimp only; decide) | omega | (dsimp only; omega)) (kd_lr (by decide) (by first | decide | (dsimp only; decide) | omega | (dsimp only; omega)) hK')
          have fx : (x + 1).toInt = x.toInt + 1 := ad32 rfl ti_1 (by omega) (by omega)
          exact ih (x + 1) lg51 J51 K51 (by rw [cl_add1 hx.1 (by omega)]; exact cp_s hC m47 m51) (by omega) (by omega)
    exact ⟨_, lp ((7 - (0 : Int32).toInt).toNat + 1) 0 lg37 J37 K37 C37 (by rw [ti_0]; omega) (Nat.lt_succ_self _)⟩
  · subst hp
    exact ⟨⟨hI, hK⟩, ⟨T9_v (by rw [hvm]; exact hVO), h29⟩, fun z => absurd z c, fun _ => ⟨hov c, hvm⟩⟩
theorem f_X9_does (a1 : Int32) {lg0 : LGt} {it0 : ITt} (hI : I9 lg0 it0) (hVO : VO (vm9 lg0 it0)) (ho : it0 489 20 = 0) (hTp : 0 < (lg0 489 29).toInt) (hdp : 0 < (lg0 489 35).toInt) (w : Nat) (hw : a1.toInt = cw (vm9 lg0 it0) w) (hwl : w ≤ rN (vm9 lg0 it0)) (hn1 : 1 ≤ rN (vm9 lg0 it0)) : w_X9_does a1 (fun (lg' : LGt) (it' : ITt) => (I9 lg' it' ∧ Kd (fun j => j = 502 ∨ j = 503 ∨ j = 504 ∨ j = 505 ∨ j = 506 ∨ j = 507) (fun k => k = 18 ∨ k = 19 ∨ k = 20 ∨ k = 28 ∨ k = 29 ∨ k = 36 ∨ k = 37 ∨ k = 38 ∨ k = 39 ∨ k = 40 ∨ k = 41) lg0 it0 lg' it') ∧ ((T9 lg' it' ∧ ¬ lg' 489 29 = 0) ∧ DS lg' it' (vm9 lg0 it0) (lg0 489 28, lg0 489 29) (lg0 489 34, lg0 489 35) w)) lg0 it0 := by
  have ne0 : ∀ {x : Int64}, 0 < x.toInt → ¬ x = 0 := fun q e => by rw [e] at q; exact absurd q (by decide)
  have f0 := i9_f hI (j := 489) (k := 0) rfl
  have hkn := cl32 (i := it0 489 0) f0.1
  have h6 : rN (vm9 lg0 it0) ≤ 6 := hVO.1
  have hN : rN (vm9 lg0 it0) = (it0 489 0).toNatClampNeg := rfl
  unfold w_X9_does
  refine ⟨_, f_X9_moves hI (T9_v hVO) (ne0 hTp) (ne0 hdp) hVO ho hTp hdp, ?_⟩
  intro lg3 it4 hq
  obtain ⟨⟨hI3, hK3⟩, ⟨h37, _⟩, hMV1, hMV2, hMV3⟩ := hq
  have hvm3 : vm9 lg3 it4 = vm9 lg0 it0 := vm9_k hK3 (fun j q => by first | omega | exact False.elim q | (dsimp only at q; omega)) (fun j q => by first | omega | exact False.elim q | (dsimp only at q; omega))
  have hVO3 : VO (vm9 lg3 it4) := by rw [hvm3]; exact hVO
  have e0 : (it4 489 0) = (it0 489 0) := (hK3.2 0 (by first | decide | (dsimp only; decide) | omega | (dsimp only; omega))).2
  have e31 : (it4 489 31) = (it0 489 31) := (hK3.2 31 (by first | decide | (dsimp only; decide) | omega | (dsimp only; omega))).2
  have e32 : (it4 489 32) = (it0 489 32) := (hK3.2 32 (by first | decide | (dsimp only; decide) | omega | (dsimp only; omega))).2
  have hKd : Kd (fun j => j = 502 ∨ j = 503 ∨ j = 504 ∨ j = 505 ∨ j = 506 ∨ j = 507) (fun k => k = 18 ∨ k = 19 ∨ k = 20 ∨ k = 28 ∨ k = 29 ∨ k = 36 ∨ k = 37 ∨ k = 38 ∨ k = 39 ∨ k = 40 ∨ k = 41) lg0 it0 lg3 it4 := kd_t kd_r hK3 (fun j hj => by first | omega | exact False.elim hj | (dsimp only at hj ⊢; omega)) (fun j hj => by first | omega | exact False.elim hj | (dsimp only at hj ⊢; omega))
  have hS0 : ¬ it4 489 20 = 0 → stpd (vm9 lg0 it0) (lg0 489 28, lg0 489 29) w (lg0 489 34, lg0 489 35) = none := fun z => stp_n ((hMV3 z).imp id Or.inl)
  have h293 : ¬ lg3 489 29 = 0 := by rw [(hK3.2 29 (by first | decide | (dsimp only; decide) | omega | (dsimp only; omega))).1]; exact ne0 hTp
  -- behind the speeds
  have tail : ∀ (lg : LGt) (it : ITt), I9 lg it → Kd (fun j => False) (fun k => k = 18 ∨ k = 19 ∨ k = 20 ∨ k = 38 ∨ k = 39 ∨ k = 40 ∨ k = 41) lg3 it4 lg it → (it 489 20 = 0 → it4 489 20 = 0) → (¬ it 489 20 = 0 → ¬ it4 489 20 = 0 ∨ ∃ i, i < rN (vm9 lg0 it0) ∧ nsp (vm9 lg0 it0) w i = none) → (it 489 20 = 0 → nsp (vm9 lg0 it0) w (w1 w) = some (lg 489 38, lg 489 39)) → (it 489 20 = 0 → ¬ w = 0 → ¬ w = rN (vm9 lg0 it0) → nsp (vm9 lg0 it0) w w = some (lg 489 40, lg 489 41)) → w_X9_does_b50 a1 (fun (lg' : LGt) (it' : ITt) => (I9 lg' it' ∧ Kd (fun j => j = 502 ∨ j = 503 ∨ j = 504 ∨ j = 505 ∨ j = 506 ∨ j = 507) (fun k => k = 18 ∨ k = 19 ∨ k = 20 ∨ k = 28 ∨ k = 29 ∨ k = 36 ∨ k = 37 ∨ k = 38 ∨ k = 39 ∨ k = 40 ∨ k = 41) lg0 it0 lg' it') ∧ ((T9 lg' it' ∧ ¬ lg' 489 29 = 0) ∧ DS lg' it' (vm9 lg0 it0) (lg0 489 28, lg0 489 29) (lg0 489 34, lg0 489 35) w)) lg it := by
    intro lg it hJ hK hm hov h1 h2
    refine does_tail a1 hJ (kd_t hKd hK (fun j hj => by first | omega | exact False.elim hj | (dsimp only at hj ⊢; omega)) (fun j hj => by first | omega | exact False.elim hj | (dsimp only at hj ⊢; omega))) ((vm9_k hK (fun j q => by first | omega | exact False.elim q | (dsimp only at q; omega)) (fun j q => by first | omega | exact False.elim q | (dsimp only at q; omega))).trans hvm3) hVO hTp hdp (by rw [(hK.2 29 (by first | decide | (dsimp only; decide) | omega | (dsimp only; omega))).1]; exact h293) hw hwl hn1 ?_ ?_ ?_ h1 h2
    · rw [(hK.2 36 (by first | decide | (dsimp only; decide) | omega | (dsimp only; omega))).1, (hK.2 37 (by first | decide | (dsimp only; decide) | omega | (dsimp only; omega))).1]; exact sv_w hMV1 hm
    · exact ar_w hMV2 hm (hK.1 506 (by decide) (by first | decide | (dsimp only; decide) | omega | (dsimp only; omega))).1 (hK.1 507 (by decide) (by first | decide | (dsimp only; decide) | omega | (dsimp only; omega))).1
    · intro z
      rcases hov z with q | q
      · exact hS0 q
      · exact stp_n (Or.inr (Or.inr q))
  refine ⟨fun z => ⟨fun z9 => ?_, fun z9 => ?_⟩, fun z => ?_⟩
  · have hm := cw_wm hw (fun q => z (Int32.toInt_inj.mp (q.trans ti_0.symm))) (fun q => z9 (Int32.toInt_inj.mp (q.trans ti_9.symm)))
    have hmn : ¬ w = (it0 489 0).toNatClampNeg := hm.2.1
    have ea : (a1 - 1).toInt = a1.toInt - 1 := sb32 rfl ti_1 (by omega) (by omega)
    have e2 := cl32 (i := a1 - 1) (by omega)
    have ei : (a1 - 1).toNatClampNeg = w - 1 := by omega
    refine ⟨_, f_X9_pushes (a1 - 1) hI3 (T9_v hVO3) (by rw [e0]; omega) hVO3, ?_⟩
    intro lg14 it15 hq
    obtain ⟨⟨hI14, hK14⟩, _, ⟨hs1, hs2⟩, hmo, hov⟩ := hq
    rw [hvm3, ei, show w - 1 + 1 = w by omega] at hs1 hs2 hov
    rw [← nsp_1 hm.1 hm.2.1] at hs1 hov
    rw [← nsp_2 hm.1 hm.2.1] at hs2 hov
    refine tail lg14 it15 hI14 hK14 hmo (fun q => (hov q).imp id (fun y => y.elim (fun y => ⟨w - 1, by rw [hN]; omega, y⟩) (fun y => ⟨w, by rw [hN]; omega, y⟩))) (fun q => ?_) (fun q _ _ => (hs2 q).1)
    have : w1 w = w - 1 := by unfold w1; rw [if_neg hm.1]
    rw [this]; exact (hs1 q).1
  · have hm := cw_w9 hw (by rw [z9, ti_9]) hwl h6
    have hmn : w = (it0 489 0).toNatClampNeg := hm
    have ea : (it4 489 0 - 1).toInt = (it4 489 0).toInt - 1 := sb32 rfl ti_1 (by rw [e0]; omega) (by rw [e0]; omega)
    have hn1' : 1 ≤ (it0 489 0).toNatClampNeg := hn1
    have ei : (it4 489 0 - 1).toNatClampNeg = w - 1 := by
      rw [e0]
      have := cl_sub1 (a := it0 489 0) (by omega)
      omega
    refine ⟨_, f_X9_turnsBack (it4 489 0 - 1) (it4 489 32) hI3 (T9_v hVO3) (by rw [ea, e0]; omega) hVO3, ?_⟩
    intro lg21 it22 hq
    obtain ⟨⟨hI21, hK21⟩, _, hs1, hmo, hov⟩ := hq
    rw [hvm3, ei, e32] at hs1 hov
    have en : nsp (vm9 lg0 it0) w (w - 1) = tnS (rS (vm9 lg0 it0) (w - 1)) (it0 489 32) := nsp_nn (by omega) hm
    rw [← en] at hs1 hov
    have hw1 : w1 w = w - 1 := by unfold w1; rw [if_neg (by omega)]
    exact tail lg21 it22 hI21 (kd_t kd_r hK21 (fun j hj => hj) (fun j hj => by first | omega | (dsimp only at hj ⊢; omega))) hmo (fun q => (hov q).imp id (fun y => ⟨w - 1, by rw [hN]; omega, y⟩)) (fun q => by rw [hw1]; exact (hs1 q).1) (fun q _ z2 => absurd hm z2)
  · have hm := cw_w0 hw (by rw [z, ti_0]) hwl h6
    refine ⟨_, f_X9_turnsBack (0 : Int32) (it4 489 31) hI3 (T9_v hVO3) (by rw [ti_0, e0]; omega) hVO3, ?_⟩
    intro lg28 it29 hq
    obtain ⟨⟨hI28, hK28⟩, _, hs1, hmo, hov⟩ := hq
    rw [hvm3, e31] at hs1 hov
    have en : nsp (vm9 lg0 it0) w 0 = tnS (rS (vm9 lg0 it0) 0) (it0 489 31) := by rw [hm.1]; exact nsp_00
    have hs1 : Sv (it29 489 20) (lg28 489 38) (lg28 489 39) (nsp (vm9 lg0 it0) w 0) := by rw [en]; exact hs1
    have hov : ¬ it29 489 20 = 0 → ¬ it4 489 20 = 0 ∨ nsp (vm9 lg0 it0) w 0 = none := by rw [en]; exact hov
    have hw1 : w1 w = 0 := by unfold w1; rw [if_pos hm.1]
    exact tail lg28 it29 hI28 (kd_t kd_r hK28 (fun j hj => hj) (fun j hj => by first | omega | (dsimp only at hj ⊢; omega))) hmo (fun q => (hov q).imp id (fun y => ⟨0, by rw [hN]; omega, y⟩)) (fun q => by rw [hw1]; exact (hs1 q).1) (fun q z0 _ => absurd hm.1 z0)
