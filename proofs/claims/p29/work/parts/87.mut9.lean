/-! the second side: what changes the rail -/
theorem w9_x {lg lg' : LGt} {it it' : ITt} (hl : ∀ j, ¬ j = 489 → lg' j = lg j) (hi : ∀ j, ¬ j = 489 → it' j = it j) (hf : ∀ k, k ≤ 3 → it' 489 k = it 489 k) : vw9 lg' it' = vw9 lg it := w9_e ⟨hf 0 (by decide), hf 1 (by decide), hf 2 (by decide), hf 3 (by decide)⟩ (hi 490 (by decide)) ⟨hl 491 (by decide), hl 492 (by decide), hl 493 (by decide), hl 494 (by decide)⟩
theorem w9_fl {lg : LGt} {it : ITt} {k : Nat} {x : Int32} (h : 3 < k) : vw9 lg (u2 it 489 k x) = vw9 lg it := w9_x (fun _ _ => rfl) (fun j hj => u2_row hj) (fun q hq => u2_ne (by omega))
theorem w9_g {lg : LGt} {it : ITt} {a b : Int64} {o : Int32} : vw9 (setU lg a b) (setO it o) = vw9 lg it := w9_x (fun j hj => setU_row hj) (fun j hj => setO_row hj) (fun q hq => setO_c (by omega))
theorem f_X9_spring (a1 : Int32) {lg0 : LGt} {it0 : ITt} (hI : I9 lg0 it0) : w_X9_spring a1 (fun (v : Int32) (lg' : LGt) (it' : ITt) => (I9 lg' it' ∧ Kd (fun j => False) (fun k => k = 1) lg0 it0 lg' it') ∧ (v = (spA (vw9 lg0 it0) a1).1 ∧ vw9 lg' it' = (spA (vw9 lg0 it0) a1).2)) lg0 it0 := by
  unfold w_X9_spring
  rw [Int32.toInt_toInt64, tl_0, tl_4]
  refine ⟨fun c it3 m3 => ⟨⟨by rw [m3]; exact i9_u hI (ok9_n rfl) (by decide) (fun _ => by decide), by rw [m3]; exact kd_uf (by first | decide | (dsimp only; decide) | omega | (dsimp only; omega)) kd_r⟩, ?_⟩, fun c => ⟨⟨hI, kd_r⟩, ?_⟩⟩
  · rw [show spA (vw9 lg0 it0) a1 = (rE (vw9 lg0 it0), setE (vw9 lg0 it0) a1) from if_pos c, m3]; exact ⟨rfl, w9_setE⟩
  · rw [show spA (vw9 lg0 it0) a1 = (-2, vw9 lg0 it0) from if_neg c]; exact ⟨rfl, rfl⟩
theorem f_X9_renew (a1 a2 a3 : Int32) {lg0 : LGt} {it0 : ITt} (hI : I9 lg0 it0) : w_X9_renew a1 a2 a3 (fun (v : Int32) (lg' : LGt) (it' : ITt) => (I9 lg' it' ∧ Kd (fun j => j = 490 ∨ j = 493 ∨ j = 494) (fun k => False) lg0 it0 lg' it') ∧ (v = (rnA (vw9 lg0 it0) a1 a2 a3).1 ∧ vw9 lg' it' = (rnA (vw9 lg0 it0) a1 a2 a3).2)) lg0 it0 := by
  generalize hp : (fun (v : Int32) (lg' : LGt) (it' : ITt) => (I9 lg' it' ∧ Kd (fun j => j = 490 ∨ j = 493 ∨ j = 494) (fun k => False) lg0 it0 lg' it') ∧ (v = (rnA (vw9 lg0 it0) a1 a2 a3).1 ∧ vw9 lg' it' = (rnA (vw9 lg0 it0) a1 a2 a3).2)) = Pz
  have f0 := i9_f hI (j := 489) (k := 0) rfl
  have hkn := cl32 (i := it0 489 0) f0.1
  have fB : (it0 489 0 - 1).toInt = (it0 489 0).toInt - 1 := sb32 rfl ti_1 (by omega) (by omega)
  have hN : (rN (vw9 lg0 it0) : Int) = (it0 489 0).toInt := hkn
  have same : ∀ x : Int32, rnA (vw9 lg0 it0) a1 a2 a3 = (x, vw9 lg0 it0) → Pz x lg0 it0 := by
    intro x e
    subst hp
    refine ⟨⟨hI, kd_r⟩, ?_⟩
    rw [e]
    exact ⟨rfl, rfl⟩
  unfold w_X9_renew
  rw [Int32.toInt_toInt64, Int32.toInt_toInt64, tl_0, tl_1, tl_9, tl_m9, fB]
  refine ⟨fun c => same _ (by unfold rnA; rw [if_pos (by omega)]), fun c => ⟨fun c2 => ⟨fun z => ⟨fun c3 => ?_, fun c3 => same _ ?_⟩, fun z => ⟨fun c3 => ?_, fun c3 => same _ ?_⟩⟩, fun c2 => same _ ?_⟩⟩
  · have z2 : ¬ a2.toInt = 0 := fun q => z (Int32.toInt_inj.mp (q.trans ti_0.symm))
    have e : rnA (vw9 lg0 it0) a1 a2 a3 = (Int32.ofNat (rN (vw9 lg0 it0)), setS (vw9 lg0 it0) a1.toNatClampNeg (a3.toInt64, 1)) := by unfold rnA; rw [if_neg (by omega), if_neg (by omega), if_neg z2, if_pos c3]
    have hv : vp_in a1 6 := vp_of (by omega) (by omega)
    have hk1 := cl32 (i := a1) (by omega)
    unfold w_X9_renew_b56
    refine ⟨fun _ => ⟨hv, fun lg13 m13 => ⟨hv, fun lg15 m15 => ?_⟩⟩, fun q => absurd q z⟩
    subst hp
    refine ⟨⟨by rw [m15, m13]; exact i9_d (i9_l hI (by decide) (by decide) (by decide)) (by decide) (by decide), by rw [m15, m13]; exact kd_lr (by decide) (by first | decide | (dsimp only; decide) | omega | (dsimp only; omega)) (kd_lr (by decide) (by first | decide | (dsimp only; decide) | omega | (dsimp only; omega)) kd_r)⟩, ?_⟩
    rw [e]
    exact ⟨(ofN (by omega)).symm, w9_setS (by omega) m13 m15⟩
  · have z2 : ¬ a2.toInt = 0 := fun q => z (Int32.toInt_inj.mp (q.trans ti_0.symm))
    unfold rnA; rw [if_neg (by omega), if_neg (by omega), if_neg z2, if_neg c3]
  · have z2 : a2.toInt = 0 := by rw [z, ti_0]
    have e : rnA (vw9 lg0 it0) a1 a2 a3 = (Int32.ofNat (rN (vw9 lg0 it0)), setM (vw9 lg0 it0) a1.toNatClampNeg a3) := by unfold rnA; rw [if_neg (by omega), if_neg (by omega), if_pos z2, if_pos c3]
    have hv : vp_in a1 6 := vp_of (by omega) (by omega)
    have hk1 := cl32 (i := a1) (by omega)
    unfold w_X9_renew_b56
    refine ⟨fun q => absurd z q, fun _ => ⟨hv, fun it19 m19 => ?_⟩⟩
    subst hp
    refine ⟨⟨by rw [m19]; exact i9_m hI c3, by rw [m19]; exact kd_ur (by decide) (by first | decide | (dsimp only; decide) | omega | (dsimp only; omega)) kd_r⟩, ?_⟩
    rw [e, show it19 489 0 = it0 489 0 from by rw [m19]; exact congrFun (u2_row (by decide)) 0]
    exact ⟨(ofN (by omega)).symm, by rw [m19]; exact w9_setM (by omega)⟩
  · have z2 : a2.toInt = 0 := by rw [z, ti_0]
    unfold rnA; rw [if_neg (by omega), if_neg (by omega), if_pos z2, if_neg c3]
  · unfold rnA; rw [if_neg (by omega), if_pos c2]
theorem f_X9_bumper (a1 a2 a3 : Int32) {lg0 : LGt} {it0 : ITt} (hI : I9 lg0 it0) (hVO : VO (vw9 lg0 it0)) : w_X9_bumper a1 a2 a3 (fun (v : Int32) (lg' : LGt) (it' : ITt) => (I9 lg' it' ∧ Kd (fun j => j = 490 ∨ j = 491 ∨ j = 492 ∨ j = 493 ∨ j = 494) (fun k => k = 0 ∨ k = 18 ∨ k = 19 ∨ k = 20) lg0 it0 lg' it') ∧ (v = (bmA (vw9 lg0 it0) a1 a2 a3).1 ∧ vw9 lg' it' = (bmA (vw9 lg0 it0) a1 a2 a3).2)) lg0 it0 := by
  generalize hp : (fun (v : Int32) (lg' : LGt) (it' : ITt) => (I9 lg' it' ∧ Kd (fun j => j = 490 ∨ j = 491 ∨ j = 492 ∨ j = 493 ∨ j = 494) (fun k => k = 0 ∨ k = 18 ∨ k = 19 ∨ k = 20) lg0 it0 lg' it') ∧ (v = (bmA (vw9 lg0 it0) a1 a2 a3).1 ∧ vw9 lg' it' = (bmA (vw9 lg0 it0) a1 a2 a3).2)) = Pz
  generalize hV : vw9 lg0 it0 = V at *
  have fin : ∀ (lg : LGt) (it : ITt), I9 lg it → Kd (fun j => j = 490 ∨ j = 491 ∨ j = 492 ∨ j = 493 ∨ j = 494) (fun k => k = 0 ∨ k = 18 ∨ k = 19 ∨ k = 20) lg0 it0 lg it → vw9 lg it = V → ((0 ≤ a1.toInt ∧ a1.toInt ≤ 99) ∧ (1 ≤ a2.toInt ∧ a2.toInt ≤ 9) ∧ (-9 ≤ a3.toInt ∧ a3.toInt ≤ 9)) → ¬ Nr V a1 → w_X9_bumper_b104 a1 a2 a3 Pz lg it := by
    intro lg it hJ hK hW ha hnr
    have f0 := i9_f hJ (j := 489) (k := 0) rfl
    have hz := cl32 (i := it 489 0) f0.1
    have hN : rN V = (it 489 0).toNatClampNeg := by rw [← hW]; rfl
    unfold w_X9_bumper_b104
    refine ⟨fun c => ?_, fun c => ?_⟩
    · have c6 : ¬ (it 489 0).toInt = 6 := fun q => c (Int32.toInt_inj.mp (q.trans ti_6.symm))
      have hv : vp_in (it 489 0) 6 := vp_of f0.1 (by omega)
      refine ⟨hv, fun it35 m35 => ?_⟩
      have e0 : it35 489 0 = it 489 0 := by rw [m35]; exact congrFun (u2_row (by decide)) 0
      rw [e0]
      refine ⟨hv, fun lg37 m37 => ⟨hv, fun lg39 m39 => ⟨hv, fun lg41 m41 => ⟨hv, fun lg43 m43 it45 m45 => ?_⟩⟩⟩⟩
      have J35 : I9 lg it35 := by rw [m35]; exact i9_m hJ ha.2.1
      have J43 : I9 lg43 it35 := by rw [m43, m41, m39, m37]; exact i9_d (i9_l (i9_d (i9_l J35 (by decide) (by decide) (by decide)) (by decide) (by decide)) (by decide) (by decide) (by decide)) (by decide) (by decide)
      have K43 : Kd (fun j => j = 490 ∨ j = 491 ∨ j = 492 ∨ j = 493 ∨ j = 494) (fun k => k = 0 ∨ k = 18 ∨ k = 19 ∨ k = 20) lg0 it0 lg43 it35 := by rw [m43, m41, m39, m37, m35]; exact kd_lr (by decide) (by first | decide | (dsimp only; decide) | omega | (dsimp only; omega)) (kd_lr (by decide) (by first | decide | (dsimp only; decide) | omega | (dsimp only; omega)) (kd_lr (by decide) (by first | decide | (dsimp only; decide) | omega | (dsimp only; omega)) (kd_lr (by decide) (by first | decide | (dsimp only; decide) | omega | (dsimp only; omega)) (kd_ur (by decide) (by first | decide | (dsimp only; decide) | omega | (dsimp only; omega)) hK))))
      have fv : (it 489 0 + 1).toInt = (it 489 0).toInt + 1 := ad32 rfl ti_1 (by omega) (by omega)
      have hw := w9_add (lg := lg) (it := it) (n := it 489 0) (x := it 489 0 + 1) rfl (by omega) m35 m37 m39 m41 m43 m45 fv
      subst hp
      refine ⟨⟨?_, by rw [m45]; exact kd_uf (by first | decide | (dsimp only; decide) | omega | (dsimp only; omega)) K43⟩, ?_⟩
      · rw [m45]
        refine i9_many (m := (it 489 0).toNatClampNeg) J43 (by rw [e0]; exact hz) (by rw [e0]; exact fv) (by omega) ?_ ?_ ?_
        · rw [m43, u2_row (by decide), m41, u2_row (by decide), m39, u2_eq]; decide
        · rw [m43, u2_eq]; decide
        · rw [m35, u2_eq]; exact ha.2.1
      · rw [bm_y ha hnr (by omega)]
        refine ⟨?_, by rw [hw, hW]⟩
        show it45 489 0 - 1 = Int32.ofNat (rN V)
        rw [hN, ofN (by omega), m45, u2_eq]
        apply Int32.toInt_inj.mp
        rw [sb32 (x := it 489 0 + 1) (y := 1) fv ti_1 (by omega) (by omega)]
        omega
    · have c6 : (it 489 0).toInt = 6 := by rw [c, ti_6]
      subst hp
      refine ⟨⟨hJ, hK⟩, ?_⟩
      rw [bm_f ha hnr (by omega)]
      exact ⟨rfl, hW⟩
  have f0 := i9_f hI (j := 489) (k := 0) rfl
  have hkn := cl32 (i := it0 489 0) f0.1
  have hN : rN V = (it0 489 0).toNatClampNeg := by rw [← hV]; rfl
  have bad : ¬ ((0 ≤ a1.toInt ∧ a1.toInt ≤ 99) ∧ (1 ≤ a2.toInt ∧ a2.toInt ≤ 9) ∧ (-9 ≤ a3.toInt ∧ a3.toInt ≤ 9)) → Pz (-2) lg0 it0 := by
    intro h
    subst hp
    refine ⟨⟨hI, kd_r⟩, ?_⟩
    rw [bm_r h]
    exact ⟨rfl, hV⟩
  unfold w_X9_bumper
  rw [Int32.toInt_toInt64, Int32.toInt_toInt64, Int32.toInt_toInt64, tl_0, tl_99, tl_1, tl_9, tl_m9]
  refine ⟨fun c => bad (fun q => c q.1), fun c1 => ⟨fun c => bad (fun q => c q.2.1), fun c2 => ⟨fun c3 => ⟨fun c0 => ?_, fun c0 => ?_⟩, fun c => bad (fun q => c q.2.2)⟩⟩⟩
  · rw [Int32.le_iff_toInt_le, ti_0] at c0
    exact fin _ _ hI kd_r hV ⟨c1, c2, c3⟩ (nr_z (by omega))
  · rw [Int32.le_iff_toInt_le, ti_0] at c0
    intro it9 m9
    have e0 : it9 489 0 = it0 489 0 := by rw [m9]; exact u2_ne (by decide)
    rw [e0]
    have fB : (it0 489 0 - 1).toInt = (it0 489 0).toInt - 1 := sb32 rfl ti_1 (by omega) (by omega)
    have hv : vp_in (it0 489 0 - 1) 6 := vp_of (by omega) (by omega)
    have hz := cl32 (i := it0 489 0 - 1) (by omega)
    have hi : (it0 489 0 - 1).toNatClampNeg = rN V - 1 := by omega
    have J9 : I9 lg0 it9 := by rw [m9]; exact i9_u hI (ok9_b (a := 0) (b := 1) rfl (by decide)) (by decide) (fun _ => by decide)
    have K9 : Kd (fun j => j = 490 ∨ j = 491 ∨ j = 492 ∨ j = 493 ∨ j = 494) (fun k => k = 0 ∨ k = 18 ∨ k = 19 ∨ k = 20) lg0 it0 lg0 it9 := by rw [m9]; exact kd_uf (by first | decide | (dsimp only; decide) | omega | (dsimp only; omega)) kd_r
    have o9 : it9 489 20 = 0 := by rw [m9, u2_eq]
    refine ⟨hv, hv, i9_o J9, (hI.2.2.1 _ (vlt hv) (by omega)).1.1, by decide, ?_⟩
    rw [hi, o9]
    intro q15 mq lg16 m16 it17 m17
    have J : I9 lg16 it17 := by rw [m16, m17]; exact i9_g J9 (by rw [mq]; exact gL_o (Or.inl rfl))
    have K : Kd (fun j => j = 490 ∨ j = 491 ∨ j = 492 ∨ j = 493 ∨ j = 494) (fun k => k = 0 ∨ k = 18 ∨ k = 19 ∨ k = 20) lg0 it0 lg16 it17 := by rw [m16, m17]; exact kd_g (by first | decide | (dsimp only; decide) | omega | (dsimp only; omega)) (by first | decide | (dsimp only; decide) | omega | (dsimp only; omega)) (by first | decide | (dsimp only; decide) | omega | (dsimp only; omega)) K9
    have W : vw9 lg16 it17 = V := by rw [m16, m17, w9_g, m9, w9_fl (by decide)]; exact hV
    have eP : rP V (rN V - 1) = (lg0 491 (rN V - 1), lg0 492 (rN V - 1)) := by
      have h1 : rN V - 1 < (it0 489 0).toNatClampNeg := by omega
      generalize rN V - 1 = i at h1
      rw [← hV]
      exact if_pos h1
    have sP : Sv 0 (lg0 491 (rN V - 1)) (lg0 492 (rN V - 1)) (some (rP V (rN V - 1))) := by
      have z := (hVO.2.1 (rN V - 1)).1
      rw [eP] at z ⊢
      exact sv_c z
    have zs := sv_l sP (sv_c (a := a1.toInt64) (b := 1) (show 0 < (1 : Int64).toInt by decide))
    rw [← mq] at zs
    have e17 : it17 489 20 = q15.2.2 := by rw [m17, setO_o]
    have Z : Nr V a1 → ∀ it2 : ITt, it2 = u2 it17 489 20 0 → Pz (-3) lg16 it2 := by
      intro hnr it2 m2
      subst hp
      refine ⟨⟨by rw [m2]; exact i9_u J (ok9_b (a := 0) (b := 1) rfl (by decide)) (by decide) (fun _ => by decide), by rw [m2]; exact kd_uf (by first | decide | (dsimp only; decide) | omega | (dsimp only; omega)) K⟩, ?_⟩
      rw [bm_s ⟨c1, c2, c3⟩ hnr, m2, w9_fl (by decide)]
      exact ⟨rfl, W⟩
    refine ⟨fun c it2 m2 => Z (nr_o (by omega) ((zs.2.2 (by rw [← e17]; exact c)).resolve_left (fun q => q rfl))) it2 m2, fun c => ⟨fun c4 => fin _ _ J K W ⟨c1, c2, c3⟩ (nr_n (zs.1 (by rw [← e17]; exact c)).1 c4), fun c4 it2 m2 => Z (nr_y (by omega) (zs.1 (by rw [← e17]; exact c)).1 c4) it2 m2⟩⟩
theorem orr1 {x : Int32} (h : x = 0 ∨ x = 1) : x ||| 1 = 1 := by rcases h with rfl | rfl <;> rfl
theorem orr0 {x : Int32} (h : x = 0 ∨ x = 1) : x ||| 0 = x := by rcases h with rfl | rfl <;> rfl
theorem f_X9_isBeyond (a1 : Int32) {lg0 : LGt} {it0 : ITt} (hI : I9 lg0 it0) (hVO : VO (vw9 lg0 it0)) : w_X9_isBeyond a1 (fun (v : Int32) (lg' : LGt) (it' : ITt) => (I9 lg' it' ∧ Kd (fun j => False) (fun k => k = 18 ∨ k = 19 ∨ k = 20) lg0 it0 lg' it') ∧ (vw9 lg' it' = vw9 lg0 it0 ∧ ((v = 1 ∧ Bey (vw9 lg0 it0) a1) ∨ (v = 0 ∧ ¬ Bey (vw9 lg0 it0) a1)))) lg0 it0 := by
  generalize hp : (fun (v : Int32) (lg' : LGt) (it' : ITt) => (I9 lg' it' ∧ Kd (fun j => False) (fun k => k = 18 ∨ k = 19 ∨ k = 20) lg0 it0 lg' it') ∧ (vw9 lg' it' = vw9 lg0 it0 ∧ ((v = 1 ∧ Bey (vw9 lg0 it0) a1) ∨ (v = 0 ∧ ¬ Bey (vw9 lg0 it0) a1)))) = Pz
  generalize hV : vw9 lg0 it0 = V at *
  have f0 := i9_f hI (j := 489) (k := 0) rfl
  have hkn := cl32 (i := it0 489 0) f0.1
  have hN : rN V = (it0 489 0).toNatClampNeg := by rw [← hV]; rfl
  have lp : ∀ (n : Nat) (x2 x3 : Int32) (lg : LGt) (it : ITt), I9 lg it → Kd (fun j => False) (fun k => k = 18 ∨ k = 19 ∨ k = 20) lg0 it0 lg it → vw9 lg it = V → (0 ≤ x3.toInt ∧ x3.toInt ≤ (it0 489 0).toInt) → ((x2 = 1 ∧ ∃ j, j < x3.toNatClampNeg ∧ Bey1 (rP V j) a1) ∨ (x2 = 0 ∧ ∀ j, j < x3.toNatClampNeg → ¬ Bey1 (rP V j) a1)) → (7 - x3.toInt).toNat < n → w_X9_isBeyond_b4 a1 Pz n x2 x3 lg it := by
    intro n
    induction n with
    | zero => intro x2 x3 lg it _ _ _ _ _ hn; exact absurd hn (Nat.not_lt_zero _)
    | succ n ih =>
      intro x2 x3 lg it hJ hK hW hx hb hn
      have h01 : x2 = 0 ∨ x2 = 1 := hb.elim (fun q => Or.inr q.1) (fun q => Or.inl q.1)
      have e0 : it 489 0 = it0 489 0 := (hK.2 0 (by first | decide | (dsimp only; decide) | omega | (dsimp only; omega))).2
      have hk := cl32 hx.1
      unfold w_X9_isBeyond_b4
      refine ⟨fun c => ?_, fun c => ?_⟩
      · rw [Int32.le_iff_toInt_le, e0] at c
        intro it3 m3
        refine ⟨ib h01, ?_⟩
        subst hp
        refine ⟨⟨by rw [m3]; exact i9_u hJ (ok9_b (a := 0) (b := 1) rfl (by decide)) (by decide) (fun _ => by decide), by rw [m3]; exact kd_uf (by first | decide | (dsimp only; decide) | omega | (dsimp only; omega)) hK⟩, by rw [m3, w9_fl (by decide)]; exact hW, ?_⟩
        rcases hb with ⟨q, j, hj, hq⟩ | ⟨q, hq⟩
        · exact Or.inl ⟨q, j, by omega, hq⟩
        · exact Or.inr ⟨q, fun ⟨j, hj, hb⟩ => hq j (by omega) hb⟩
      · rw [Int32.le_iff_toInt_le, e0] at c
        have hv : vp_in x3 6 := vp_of hx.1 (by omega)
        have eP : rP V x3.toNatClampNeg = (lg 491 x3.toNatClampNeg, lg 492 x3.toNatClampNeg) := by
          rw [← hW]
          exact if_pos (by rw [e0]; omega)
        have ha1 : (x3 + 1).toNatClampNeg = x3.toNatClampNeg + 1 := cl_add1 hx.1 (by omega)
        have fx : (x3 + 1).toInt = x3.toInt + 1 := ad32 rfl ti_1 (by omega) (by omega)
        -- one more
        have yes : Bey1 (rP V x3.toNatClampNeg) a1 → ((x2 ||| 1) = 1 ∧ ∃ j, j < (x3 + 1).toNatClampNeg ∧ Bey1 (rP V j) a1) ∨ ((x2 ||| 1) = 0 ∧ ∀ j, j < (x3 + 1).toNatClampNeg → ¬ Bey1 (rP V j) a1) := fun q => Or.inl ⟨orr1 h01, x3.toNatClampNeg, by omega, q⟩
        have no : ¬ Bey1 (rP V x3.toNatClampNeg) a1 → ((x2 ||| 0) = 1 ∧ ∃ j, j < (x3 + 1).toNatClampNeg ∧ Bey1 (rP V j) a1) ∨ ((x2 ||| 0) = 0 ∧ ∀ j, j < (x3 + 1).toNatClampNeg → ¬ Bey1 (rP V j) a1) := by
          intro q
          rw [orr0 h01]
          rcases hb with ⟨y, j, hj, hq⟩ | ⟨y, hq⟩
          · exact Or.inl ⟨y, j, by omega, hq⟩
          · refine Or.inr ⟨y, fun j hj => ?_⟩
            by_cases z : j = x3.toNatClampNeg
            · rw [z]; exact q
            · exact hq j (by omega)
        intro it5 m5
        have J5 : I9 lg it5 := by rw [m5]; exact i9_u hJ (ok9_b (a := 0) (b := 1) rfl (by decide)) (by decide) (fun _ => by decide)
        have K5 : Kd (fun j => False) (fun k => k = 18 ∨ k = 19 ∨ k = 20) lg0 it0 lg it5 := by rw [m5]; exact kd_uf (by first | decide | (dsimp only; decide) | omega | (dsimp only; omega)) hK
        have W5 : vw9 lg it5 = V := by rw [m5, w9_fl (by decide)]; exact hW
        have o5 : it5 489 20 = 0 := by rw [m5, u2_eq]
        refine ⟨fun z => ?_, fun z => ?_⟩
        · have z2 : ¬ a1.toInt = 0 := fun q => z (Int32.toInt_inj.mp (q.trans ti_0.symm))
          have hnz : ¬ lg 492 x3.toNatClampNeg = 0 := (hJ.2.2.1 _ (vlt hv) (by rw [e0]; omega)).1.1
          refine ⟨hv, hv, i9_o J5, hnz, by decide, ?_⟩
          rw [o5]
          intro q13 mq lg14 m14 it15 m15
          have J15 : I9 lg14 it15 := by rw [m14, m15]; exact i9_g J5 (by rw [mq]; exact gL_o (Or.inl rfl))
          have K15 : Kd (fun j => False) (fun k => k = 18 ∨ k = 19 ∨ k = 20) lg0 it0 lg14 it15 := by rw [m14, m15]; exact kd_g (by first | decide | (dsimp only; decide) | omega | (dsimp only; omega)) (by first | decide | (dsimp only; decide) | omega | (dsimp only; omega)) (by first | decide | (dsimp only; decide) | omega | (dsimp only; omega)) K5
          have W15 : vw9 lg14 it15 = V := by rw [m14, m15, w9_g]; exact W5
          have sP : Sv 0 (lg 491 x3.toNatClampNeg) (lg 492 x3.toNatClampNeg) (some (rP V x3.toNatClampNeg)) := by
            have y := (hVO.2.1 x3.toNatClampNeg).1
            rw [eP] at y ⊢
            exact sv_c y
          have zs := sv_l sP (sv_c (a := 100) (b := 1) (show 0 < (1 : Int64).toInt by decide))
          rw [← mq] at zs
          have e15 : it15 489 20 = q13.2.2 := by rw [m15, setO_o]
          have e18 : lg14 489 18 = q13.1 := by rw [m14, setU_18]
          unfold w_X9_isBeyond_b80
          refine ⟨fun c4 => ih _ _ _ _ J15 K15 W15 (by omega) (yes (b1_o z2 ((zs.2.2 (by rw [← e15]; exact c4)).resolve_left (fun q => q rfl)))) (by omega), fun c4 => ⟨fun c5 => ih _ _ _ _ J15 K15 W15 (by omega) (no (b1_n z2 (zs.1 (by rw [← e15]; exact c4)).1 (by rw [← e18]; exact c5))) (by omega), fun c5 => ih _ _ _ _ J15 K15 W15 (by omega) (yes (b1_p z2 (zs.1 (by rw [← e15]; exact c4)).1 (by rw [← e18]; exact c5))) (by omega)⟩⟩
        · have z2 : a1.toInt = 0 := by rw [z, ti_0]
          have ex : lg 491 x3.toNatClampNeg = (rP V x3.toNatClampNeg).1 := by rw [eP]
          exact ⟨hv, fun c4 => ih _ _ _ _ J5 K5 W5 (by omega) (no (b1_0 z2 ex c4)) (by omega), fun c4 => ih _ _ _ _ J5 K5 W5 (by omega) (yes (b1_1 z2 ex c4)) (by omega)⟩
  unfold w_X9_isBeyond
  exact ⟨_, lp ((7 - (0 : Int32).toInt).toNat + 1) 0 0 lg0 it0 hI kd_r hV (by rw [ti_0]; omega) (Or.inr ⟨rfl, fun j hj => absurd hj (Nat.not_lt_zero _)⟩) (Nat.lt_succ_self _)⟩
theorem f_X9_wall (a1 a2 : Int32) {lg0 : LGt} {it0 : ITt} (hI : I9 lg0 it0) (hVO : VO (vw9 lg0 it0)) : w_X9_wall a1 a2 (fun (v : Int32) (lg' : LGt) (it' : ITt) => (I9 lg' it' ∧ Kd (fun j => False) (fun k => k = 2 ∨ k = 3 ∨ k = 18 ∨ k = 19 ∨ k = 20) lg0 it0 lg' it') ∧ (v = (wlA (vw9 lg0 it0) a1 a2).1 ∧ vw9 lg' it' = (wlA (vw9 lg0 it0) a1 a2).2)) lg0 it0 := by
  generalize hp : (fun (v : Int32) (lg' : LGt) (it' : ITt) => (I9 lg' it' ∧ Kd (fun j => False) (fun k => k = 2 ∨ k = 3 ∨ k = 18 ∨ k = 19 ∨ k = 20) lg0 it0 lg' it') ∧ (v = (wlA (vw9 lg0 it0) a1 a2).1 ∧ vw9 lg' it' = (wlA (vw9 lg0 it0) a1 a2).2)) = Pz
  generalize hV : vw9 lg0 it0 = V at *
  have fin : ∀ (lg : LGt) (it : ITt), I9 lg it → Kd (fun j => False) (fun k => k = 2 ∨ k = 3 ∨ k = 18 ∨ k = 19 ∨ k = 20) lg0 it0 lg it → vw9 lg it = V → (0 ≤ a1.toInt ∧ a1.toInt ≤ 1) → (-1 ≤ a2.toInt ∧ a2.toInt ≤ 4) → ¬ (0 ≤ a2.toInt ∧ Bey V a1) → w_X9_wall_b44 a1 a2 Pz lg it := by
    intro lg it hJ hK hW h1 h2 h3
    have eA : rA V = it 489 2 := by rw [← hW]; rfl
    have eB : rB V = it 489 3 := by rw [← hW]; rfl
    unfold w_X9_wall_b44
    refine ⟨fun z => ?_, fun z => ?_⟩
    · have z2 : ¬ a1.toInt = 0 := fun q => z (Int32.toInt_inj.mp (q.trans ti_0.symm))
      unfold w_X9_wall_b59
      refine ⟨fun _ it20 m20 => ?_, fun q => absurd q z⟩
      unfold w_X9_wall_b77
      subst hp
      refine ⟨⟨by rw [m20]; exact i9_u hJ (ok9_n rfl) (by decide) (fun _ => by decide), by rw [m20]; exact kd_uf (by first | decide | (dsimp only; decide) | omega | (dsimp only; omega)) hK⟩, ?_⟩
      rw [show wlA V a1 a2 = (wTold (rB V), setB V a2) from by unfold wlA; rw [if_neg (by omega), if_neg (by omega), if_neg h3, if_neg z2], m20, w9_setB, hW, eB]
      exact ⟨rfl, rfl⟩
    · have z2 : a1.toInt = 0 := by rw [z, ti_0]
      unfold w_X9_wall_b59
      refine ⟨fun q => absurd z q, fun _ it20 m20 => ?_⟩
      unfold w_X9_wall_b77
      subst hp
      refine ⟨⟨by rw [m20]; exact i9_u hJ (ok9_n rfl) (by decide) (fun _ => by decide), by rw [m20]; exact kd_uf (by first | decide | (dsimp only; decide) | omega | (dsimp only; omega)) hK⟩, ?_⟩
      rw [show wlA V a1 a2 = (wTold (rA V), setA V a2) from by unfold wlA; rw [if_neg (by omega), if_neg (by omega), if_neg h3, if_pos z2], m20, w9_setA, hW, eA]
      exact ⟨rfl, rfl⟩
  have same : ∀ (x : Int32), wlA V a1 a2 = (x, V) → Pz x lg0 it0 := by
    intro x e
    subst hp
    refine ⟨⟨hI, kd_r⟩, ?_⟩
    rw [e]
    exact ⟨rfl, hV⟩
  unfold w_X9_wall
  rw [Int32.toInt_toInt64, Int32.toInt_toInt64, tl_0, tl_1, tl_m1, tl_4]
  refine ⟨fun c1 => ⟨fun c2 => ⟨fun c3 => ?_, fun c3 => ?_⟩, fun c2 => same _ (by unfold wlA; rw [if_neg (by omega), if_pos c2])⟩, fun c1 => same _ (by unfold wlA; rw [if_pos c1])⟩
  · rw [Int32.lt_iff_toInt_lt, ti_0] at c3
    exact fin lg0 it0 hI kd_r hV c1 c2 (fun q => by omega)
  · rw [Int32.lt_iff_toInt_lt, ti_0] at c3
    refine ⟨_, f_X9_isBeyond a1 hI (by rw [hV]; exact hVO), ?_⟩
    intro v8 lg9 it10 hq
    obtain ⟨⟨J, K⟩, hW, hb⟩ := hq
    rw [hV] at hW hb
    have K2 : Kd (fun j => False) (fun k => k = 2 ∨ k = 3 ∨ k = 18 ∨ k = 19 ∨ k = 20) lg0 it0 lg9 it10 := kd_t kd_r K (fun j hj => by first | omega | exact False.elim hj | (dsimp only at hj ⊢; omega)) (fun j hj => by first | omega | exact False.elim hj | (dsimp only at hj ⊢; omega))
    refine ⟨fun z => fin lg9 it10 J K2 hW c1 c2 (fun q => (hb.resolve_left (fun y => by rw [z] at y; exact absurd y.1 (by decide))).2 q.2), fun z => ?_⟩
    have hb2 := (hb.resolve_right (fun y => z y.1)).2
    subst hp
    refine ⟨⟨J, K2⟩, ?_⟩
    rw [show wlA V a1 a2 = (-3, V) from by unfold wlA; rw [if_neg (by omega), if_neg (by omega), if_pos ⟨by omega, hb2⟩]]
    exact ⟨rfl, hW⟩
theorem w9_fin {lg : LGt} {it : ITt} {W : Rlv} (hW : VO W) (hN : rN W = (it 489 0).toNatClampNeg) (hM : ∀ i, i < rN W → it 490 i = rM W i) (hP : ∀ i, i < rN W → (lg 491 i, lg 492 i) = rP W i) (hS : ∀ i, i < rN W → (lg 493 i, lg 494 i) = rS W i) (hE : it 489 1 = rE W) (hA : it 489 2 = rA W) (hB : it 489 3 = rB W) : vw9 lg it = W := by
  unfold vw9
  rw [← hN, hE, hA, hB]
  have eM : (fun i => if i < rN W then it 490 i else 0) = rM W := by
    funext i
    split
    · rename_i c; exact hM i c
    · rename_i c; exact (hW.2.2.2.1 i c).1.symm
  have eP : (fun i => if i < rN W then (lg 491 i, lg 492 i) else ((0, 1) : QQ)) = rP W := by
    funext i
    split
    · rename_i c; exact hP i c
    · rename_i c; exact (hW.2.2.2.1 i c).2.1.symm
  have eS : (fun i => if i < rN W then (lg 493 i, lg 494 i) else ((0, 1) : QQ)) = rS W := by
    funext i
    split
    · rename_i c; exact hS i c
    · rename_i c; exact (hW.2.2.2.1 i c).2.2.symm
  rw [eM, eP, eS]
theorem f_X9_go (a1 : Int32) {lg0 : LGt} {it0 : ITt} (hI : I9 lg0 it0) (hVO : VO (vw9 lg0 it0)) : w_X9_go a1 (fun (v : Int32) (lg' : LGt) (it' : ITt) => (I9 lg' it' ∧ Kd (fun j => j = 491 ∨ j = 492 ∨ j = 493 ∨ j = 494 ∨ j = 501 ∨ j = 502 ∨ j = 503 ∨ j = 504 ∨ j = 505 ∨ j = 506 ∨ j = 507 ∨ j = 508 ∨ j = 509 ∨ j = 510 ∨ j = 511 ∨ j = 512) (fun k => k = 18 ∨ k = 19 ∨ k = 20 ∨ k = 28 ∨ k = 29 ∨ k = 30 ∨ k = 31 ∨ k = 32 ∨ k = 33 ∨ k = 34 ∨ k = 35 ∨ k = 36 ∨ k = 37 ∨ k = 38 ∨ k = 39 ∨ k = 40 ∨ k = 41 ∨ k = 42 ∨ k = 43) lg0 it0 lg' it') ∧ (v = (goA (vw9 lg0 it0) a1).1 ∧ vw9 lg' it' = (goA (vw9 lg0 it0) a1).2)) lg0 it0 := by
  generalize hp : (fun (v : Int32) (lg' : LGt) (it' : ITt) => (I9 lg' it' ∧ Kd (fun j => j = 491 ∨ j = 492 ∨ j = 493 ∨ j = 494 ∨ j = 501 ∨ j = 502 ∨ j = 503 ∨ j = 504 ∨ j = 505 ∨ j = 506 ∨ j = 507 ∨ j = 508 ∨ j = 509 ∨ j = 510 ∨ j = 511 ∨ j = 512) (fun k => k = 18 ∨ k = 19 ∨ k = 20 ∨ k = 28 ∨ k = 29 ∨ k = 30 ∨ k = 31 ∨ k = 32 ∨ k = 33 ∨ k = 34 ∨ k = 35 ∨ k = 36 ∨ k = 37 ∨ k = 38 ∨ k = 39 ∨ k = 40 ∨ k = 41 ∨ k = 42 ∨ k = 43) lg0 it0 lg' it') ∧ (v = (goA (vw9 lg0 it0) a1).1 ∧ vw9 lg' it' = (goA (vw9 lg0 it0) a1).2)) = Pz
  unfold w_X9_go
  rw [Int32.toInt_toInt64, tl_0, tl_20]
  refine ⟨fun c => ?_, fun c => ?_⟩
  · refine ⟨_, f_X9_findAll hI hVO, ?_⟩
    intro lg5 it6 hq
    obtain ⟨⟨J6, K6⟩, _, h42, _, hak, _⟩ := hq
    generalize hV : vw9 lg0 it0 = V at *
    have K6x : Kd (fun j => j = 491 ∨ j = 492 ∨ j = 493 ∨ j = 494 ∨ j = 501 ∨ j = 502 ∨ j = 503 ∨ j = 504 ∨ j = 505 ∨ j = 506 ∨ j = 507 ∨ j = 508 ∨ j = 509 ∨ j = 510 ∨ j = 511 ∨ j = 512) (fun k => k = 18 ∨ k = 19 ∨ k = 20 ∨ k = 28 ∨ k = 29 ∨ k = 30 ∨ k = 31 ∨ k = 32 ∨ k = 33 ∨ k = 34 ∨ k = 35 ∨ k = 36 ∨ k = 37 ∨ k = 38 ∨ k = 39 ∨ k = 40 ∨ k = 41 ∨ k = 42 ∨ k = 43) lg0 it0 lg5 it6 := kd_t kd_r K6 (fun j hj => by first | omega | exact False.elim hj | (dsimp only at hj ⊢; omega)) (fun j hj => by first | omega | exact False.elim hj | (dsimp only at hj ⊢; omega))
    have W6 : vw9 lg5 it6 = V := (w9_k K6 (fun j q => by first | omega | exact False.elim q | (dsimp only at q; omega)) (fun k q => by first | omega | (dsimp only at q; omega))).trans hV
    have hN : rN V = (it6 489 0).toNatClampNeg := by rw [← W6]; rfl
    have f0 := i9_f J6 (j := 489) (k := 0) rfl
    have hkn := cl32 (i := it6 489 0) f0.1
    have hcl := cnt_le V 20
    -- n of them are done
    have lp : ∀ (m : Nat) (n : Int32), n.toInt = m → m ≤ cnt V 20 → (goA V a1 = (n, (runA V m).2.2)) → ∀ (q : Nat) (x : Int32) (lg : LGt), I9 lg it6 → Kd (fun j => j = 491 ∨ j = 492 ∨ j = 493 ∨ j = 494 ∨ j = 501 ∨ j = 502 ∨ j = 503 ∨ j = 504 ∨ j = 505 ∨ j = 506 ∨ j = 507 ∨ j = 508 ∨ j = 509 ∨ j = 510 ∨ j = 511 ∨ j = 512) (fun k => k = 18 ∨ k = 19 ∨ k = 20 ∨ k = 28 ∨ k = 29 ∨ k = 30 ∨ k = 31 ∨ k = 32 ∨ k = 33 ∨ k = 34 ∨ k = 35 ∨ k = 36 ∨ k = 37 ∨ k = 38 ∨ k = 39 ∨ k = 40 ∨ k = 41 ∨ k = 42 ∨ k = 43) lg0 it0 lg it6 → (∀ j, ¬ (491 ≤ j ∧ j ≤ 494) → lg j = lg5 j) → (m = 0 → lg = lg5) → (0 < m → ∀ j, j < x.toNatClampNeg → (lg 491 j, lg 492 j) = rP (runA V m).2.2 j ∧ (lg 493 j, lg 494 j) = rS (runA V m).2.2 j) → (0 ≤ x.toInt ∧ x.toInt ≤ (it6 489 0).toInt) → (7 - x.toInt).toNat < q → w_X9_go_b38 a1 Pz q n x lg it6 := by
      intro m n hnm hmc hgo q
      have hrk := run_k V m
      have hvo := (run_vo hVO m).1
      induction q with
      | zero => intro x lg _ _ _ _ _ _ hn; exact absurd hn (Nat.not_lt_zero _)
      | succ q ih =>
        intro x lg hJ hK hrow h0 hL hx hn
        have hkx := cl32 hx.1
        have fin : (m = 0 ∨ x.toInt = (it6 489 0).toInt) → Pz n lg it6 := by
          intro hh
          subst hp
          refine ⟨⟨hJ, hK⟩, ?_⟩
          rw [hgo]
          refine ⟨rfl, ?_⟩
          by_cases z : m = 0
          · rw [h0 z, W6, z]; rfl
          · have hx2 := hh.resolve_left z
            have hL2 := hL (by omega)
            refine w9_fin hvo (by rw [hrk.1]; exact hN) (fun i hi => ?_) (fun i hi => (hL2 i (by rw [hrk.1] at hi; omega)).1) (fun i hi => (hL2 i (by rw [hrk.1] at hi; omega)).2) ?_ ?_ ?_
            · rw [hrk.1] at hi
              rw [hrk.2.1, ← W6]
              exact (if_pos (by rw [← hN]; exact hi)).symm
            · rw [hrk.2.2.1, ← W6]; rfl
            · rw [hrk.2.2.2.1, ← W6]; rfl
            · rw [hrk.2.2.2.2, ← W6]; rfl
        unfold w_X9_go_b38
        refine ⟨fun c2 => ?_, fun c2 => ⟨fun c3 => ?_, fun c3 => ?_⟩⟩
        · rw [Int32.le_iff_toInt_le] at c2
          exact fin (Or.inr (by omega))
        · rw [Int32.le_iff_toInt_le, ti_0] at c3
          exact fin (Or.inl (by omega))
        · rw [Int32.le_iff_toInt_le] at c2
          rw [Int32.le_iff_toInt_le, ti_0] at c3
          have hv : vp_in x 6 := vp_of hx.1 (by omega)
          have g0 : (n - 1).toInt = n.toInt - 1 := sb32 rfl ti_1 (by omega) (by omega)
          have g1 : ((12 : Int32) * (n - 1)).toInt = 12 * (n.toInt - 1) := ml32 ti_12 g0 (by omega) (by omega)
          have g2 : ((12 : Int32) * (n - 1) + x).toInt = 12 * (n.toInt - 1) + x.toInt := ad32 g1 rfl (by omega) (by omega)
          have g3 : ((12 : Int32) * (n - 1) + 6).toInt = 12 * (n.toInt - 1) + 6 := ad32 g1 ti_6 (by omega) (by omega)
          have g4 : ((12 : Int32) * (n - 1) + 6 + x).toInt = 12 * (n.toInt - 1) + 6 + x.toInt := ad32 g3 rfl (by omega) (by omega)
          have j1 := cl32 (i := (12 : Int32) * (n - 1) + x) (by omega)
          have j2 := cl32 (i := (12 : Int32) * (n - 1) + 6 + x) (by omega)
          have v1 : vp_in ((12 : Int32) * (n - 1) + x) 240 := vp_of (by omega) (by omega)
          have v2 : vp_in ((12 : Int32) * (n - 1) + 6 + x) 240 := vp_of (by omega) (by omega)
          have i1 : ((12 : Int32) * (n - 1) + x).toNatClampNeg = 12 * (m - 1) + x.toNatClampNeg := by omega
          have i2 : ((12 : Int32) * (n - 1) + 6 + x).toNatClampNeg = 12 * (m - 1) + 6 + x.toNatClampNeg := by omega
          have hxn : x.toNatClampNeg < rN V := by omega
          have A := (hak (m - 1) (by omega)).2.2 x.toNatClampNeg hxn
          rw [show m - 1 + 1 = m by omega] at A
          have dP := (hvo.2.1 x.toNatClampNeg).1
          have dS := (hvo.2.1 x.toNatClampNeg).2
          rw [← A.1] at dP
          rw [← A.2] at dS
          have nz {y : Int64} (h : 0 < y.toInt) : ¬ y = 0 := fun e => by rw [e] at h; exact absurd h (by decide)
          refine ⟨v1, hv, fun lg18 m18 => ⟨v1, hv, fun lg22 m22 => ⟨v2, hv, fun lg26 m26 => ⟨v2, hv, fun lg30 m30 => ?_⟩⟩⟩⟩
          have r18 (j : Nat) (h : j ≠ 491) : lg18 j = lg j := by rw [m18, u2_row h]
          have r22 (j : Nat) (h : j ≠ 491) (h2 : j ≠ 492) : lg22 j = lg j := by rw [m22, u2_row h2, r18 j h]
          have r26 (j : Nat) (h : j ≠ 491) (h2 : j ≠ 492) (h3 : j ≠ 493) : lg26 j = lg j := by rw [m26, u2_row h3, r22 j h h2]
          have r30 (j : Nat) (h : j ≠ 491) (h2 : j ≠ 492) (h3 : j ≠ 493) (h4 : j ≠ 494) : lg30 j = lg j := by rw [m30, u2_row h4, r26 j h h2 h3]
          have w1 : lg 511 (12 * (m - 1) + x.toNatClampNeg) = (rP (runA V m).2.2 x.toNatClampNeg).1 := by rw [← A.1, hrow 511 (by decide)]
          have w2 : lg18 512 (12 * (m - 1) + x.toNatClampNeg) = (rP (runA V m).2.2 x.toNatClampNeg).2 := by rw [← A.1, r18 512 (by decide), hrow 512 (by decide)]
          have w3 : lg22 511 (12 * (m - 1) + 6 + x.toNatClampNeg) = (rS (runA V m).2.2 x.toNatClampNeg).1 := by rw [← A.2, r22 511 (by decide) (by decide), hrow 511 (by decide)]
          have w4 : lg26 512 (12 * (m - 1) + 6 + x.toNatClampNeg) = (rS (runA V m).2.2 x.toNatClampNeg).2 := by rw [← A.2, r26 512 (by decide) (by decide) (by decide), hrow 512 (by decide)]
          rw [i1, w1] at m18
          rw [i1, w2] at m22
          rw [i2, w3] at m26
          rw [i2, w4] at m30
          have J18 : I9 lg18 it6 := by rw [m18]; exact i9_l hJ (by decide) (by decide) (by decide)
          have J22 : I9 lg22 it6 := by rw [m22]; exact i9_d J18 (by decide) (nz (hvo.2.1 x.toNatClampNeg).1)
          have J26 : I9 lg26 it6 := by rw [m26]; exact i9_l J22 (by decide) (by decide) (by decide)
          have J30 : I9 lg30 it6 := by rw [m30]; exact i9_d J26 (by decide) (nz (hvo.2.1 x.toNatClampNeg).2)
          have K30 : Kd (fun j => j = 491 ∨ j = 492 ∨ j = 493 ∨ j = 494 ∨ j = 501 ∨ j = 502 ∨ j = 503 ∨ j = 504 ∨ j = 505 ∨ j = 506 ∨ j = 507 ∨ j = 508 ∨ j = 509 ∨ j = 510 ∨ j = 511 ∨ j = 512) (fun k => k = 18 ∨ k = 19 ∨ k = 20 ∨ k = 28 ∨ k = 29 ∨ k = 30 ∨ k = 31 ∨ k = 32 ∨ k = 33 ∨ k = 34 ∨ k = 35 ∨ k = 36 ∨ k = 37 ∨ k = 38 ∨ k = 39 ∨ k = 40 ∨ k = 41 ∨ k = 42 ∨ k = 43) lg0 it0 lg30 it6 := by rw [m30, m26, m22, m18]; exact kd_lr (by decide) (by first | decide | (dsimp only; decide) | omega | (dsimp only; omega)) (kd_lr (by decide) (by first | decide | (dsimp only; decide) | omega | (dsimp only; omega)) (kd_lr (by decide) (by first | decide | (dsimp only; decide) | omega | (dsimp only; omega)) (kd_lr (by decide) (by first | decide | (dsimp only; decide) | omega | (dsimp only; omega)) hK)))
          have fx : (x + 1).toInt = x.toInt + 1 := ad32 rfl ti_1 (by omega) (by omega)
          refine ih (x + 1) lg30 J30 K30 (fun j hj => by rw [r30 j (by omega) (by omega) (by omega) (by omega)]; exact hrow j hj) (fun z => by omega) (fun hm0 j hj => ?_) (by omega) (by omega)
          rw [cl_add1 hx.1 (by omega)] at hj
          have c1 : lg30 491 j = if j = x.toNatClampNeg then (rP (runA V m).2.2 x.toNatClampNeg).1 else lg 491 j := by
            rw [m30, u2_row (by decide), m26, u2_row (by decide), m22, u2_row (by decide), m18]
            by_cases z : j = x.toNatClampNeg
            · rw [if_pos z, z, u2_eq]
            · rw [if_neg z, u2_ne z]
          have c2 : lg30 492 j = if j = x.toNatClampNeg then (rP (runA V m).2.2 x.toNatClampNeg).2 else lg 492 j := by
            rw [m30, u2_row (by decide), m26, u2_row (by decide), m22]
            by_cases z : j = x.toNatClampNeg
            · rw [if_pos z, z, u2_eq]
            · rw [if_neg z, u2_ne z, r18 492 (by decide)]
          have c3 : lg30 493 j = if j = x.toNatClampNeg then (rS (runA V m).2.2 x.toNatClampNeg).1 else lg 493 j := by
            rw [m30, u2_row (by decide), m26]
            by_cases z : j = x.toNatClampNeg
            · rw [if_pos z, z, u2_eq]
            · rw [if_neg z, u2_ne z, r22 493 (by decide) (by decide)]
          have c4 : lg30 494 j = if j = x.toNatClampNeg then (rS (runA V m).2.2 x.toNatClampNeg).2 else lg 494 j := by
            rw [m30]
            by_cases z : j = x.toNatClampNeg
            · rw [if_pos z, z, u2_eq]
            · rw [if_neg z, u2_ne z, r26 494 (by decide) (by decide) (by decide)]
          rw [c1, c2, c3, c4]
          by_cases z : j = x.toNatClampNeg
          · rw [if_pos z, if_pos z, if_pos z, if_pos z, z]; exact ⟨rfl, rfl⟩
          · rw [if_neg z, if_neg z, if_neg z, if_neg z]; exact hL hm0 j (by omega)
    have k1 := cl32 (i := a1) c.1
    have go : ∀ (n : Int32), n.toInt = ((min a1.toNatClampNeg (cnt V 20) : Nat) : Int) → ∃ n38, w_X9_go_b38 a1 Pz n38 n 0 lg5 it6 := by
      intro n hn
      refine ⟨_, lp (min a1.toNatClampNeg (cnt V 20)) n hn (Nat.min_le_right _ _) ?_ ((7 - (0 : Int32).toInt).toNat + 1) 0 lg5 J6 K6x (fun j _ => rfl) (fun _ => rfl) (fun _ j hj => absurd hj (Nat.not_lt_zero _)) (by rw [ti_0]; omega) (Nat.lt_succ_self _)⟩
      unfold goA
      rw [if_neg (by omega)]
      have e : Int32.ofNat (min a1.toNatClampNeg (cnt V 20)) = n := by
        apply Int32.toInt_inj.mp
        rw [oN (by omega), hn]
      rw [e]
    refine ⟨fun c2 => go _ ?_, fun c2 => go _ ?_⟩
    · rw [Int32.le_iff_toInt_le] at c2
      omega
    · rw [Int32.le_iff_toInt_le] at c2
      omega
  · subst hp
    refine ⟨⟨hI, kd_r⟩, ?_⟩
    rw [show goA (vw9 lg0 it0) a1 = (-2, vw9 lg0 it0) from if_pos c]
    exact ⟨rfl, rfl⟩
