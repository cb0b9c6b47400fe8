/-! where one is at a time, on both sides -/
noncomputable def upS (V : Rlv) (t : Int64) : Nat → Nat → Int
  | 0, k => if (runA V 20).1 = 0 then k else -1
  | n + 1, k => match oL (some (t, 1)) (some (runA V (k + 1)).2.1) with
    | none => -1
    | some r => if r.1 < 0 then k else upS V t n (k + 1)
theorem ups_n {V : Rlv} {t : Int64} {n k : Nat} (h : oL (some (t, 1)) (some (runA V (k + 1)).2.1) = none) : upS V t (n + 1) k = -1 := by rw [upS, h]
theorem ups_l {V : Rlv} {t : Int64} {n k : Nat} {r : QQ} (h : oL (some (t, 1)) (some (runA V (k + 1)).2.1) = some r) (h2 : r.1 < 0) : upS V t (n + 1) k = k := by
  rw [upS, h]
  exact if_pos h2
theorem ups_g {V : Rlv} {t : Int64} {n k : Nat} {r : QQ} (h : oL (some (t, 1)) (some (runA V (k + 1)).2.1) = some r) (h2 : ¬ r.1 < 0) : upS V t (n + 1) k = upS V t n (k + 1) := by
  rw [upS, h]
  exact if_neg h2
theorem ups_b (V : Rlv) (t : Int64) : ∀ n k, upS V t n k = -1 ∨ (0 ≤ upS V t n k ∧ upS V t n k ≤ k + n)
  | 0, k => by
    rw [upS]
    split
    · omega
    · omega
  | n + 1, k => by
    cases h : oL (some (t, 1)) (some (runA V (k + 1)).2.1) with
    | none => exact Or.inl (ups_n h)
    | some r =>
      by_cases c : r.1 < 0
      · rw [ups_l h c]; omega
      · rw [ups_g h c]
        have := ups_b V t n (k + 1)
        omega
noncomputable def upI (V : Rlv) (t : Int32) : Int := upS V t.toInt64 (cnt V 20) 0
theorem upi_b (V : Rlv) (t : Int32) : upI V t = -1 ∨ (0 ≤ upI V t ∧ upI V t ≤ cnt V 20) := by
  have := ups_b V t.toInt64 (cnt V 20) 0
  unfold upI
  omega
noncomputable def atN (V : Rlv) (i : Nat) (t : Int64) (n : Nat) : Option QQ := oP (some (rP (runA V n).2.2 i)) (oT (some (rS (runA V n).2.2 i)) (oL (some (t, 1)) (some (runA V n).2.1)))
noncomputable def atA (V : Rlv) (a t b : Int32) : Int64 := if ¬ (0 ≤ a.toInt ∧ a.toInt < rN V) ∨ ¬ (0 ≤ t.toInt ∧ t.toInt ≤ 99) ∨ ¬ (0 ≤ b.toInt ∧ b.toInt ≤ 1) then MNL else if upI V t < 0 then MNL else hfO (atN V a.toNatClampNeg t.toInt64 (upI V t).toNat) b
theorem at_y {V : Rlv} {a t b : Int32} {u : Nat} (h1 : 0 ≤ a.toInt ∧ a.toInt < rN V) (h2 : 0 ≤ t.toInt ∧ t.toInt ≤ 99) (h3 : 0 ≤ b.toInt ∧ b.toInt ≤ 1) (h4 : 0 ≤ upI V t) (hu : (upI V t).toNat = u) : atA V a t b = hfO (atN V a.toNatClampNeg t.toInt64 u) b := by
  unfold atA
  rw [if_neg (by omega), if_neg (by omega), hu]
theorem at_n {V : Rlv} {a t b : Int32} (h : ¬ (0 ≤ a.toInt ∧ a.toInt < rN V) ∨ ¬ (0 ≤ t.toInt ∧ t.toInt ≤ 99) ∨ ¬ (0 ≤ b.toInt ∧ b.toInt ≤ 1)) : atA V a t b = MNL := if_pos h
theorem at_m {V : Rlv} {a t b : Int32} (h : ¬ 0 ≤ upI V t) : atA V a t b = MNL := by
  unfold atA
  split
  · rfl
  · exact if_pos (by omega)
theorem nn64 {x : Int64} : 0 ≤ x ↔ ¬ x < 0 := by
  rw [Int64.le_iff_toInt_le, Int64.lt_iff_toInt_lt, tl_0]
  omega
theorem cis_k {S : Nat → Prop} {lg lg' : LGt} {it it' : ITt} {V : Rlv} {m : Nat} (h : CIs lg it V m) (hm : m ≤ 20) (hk : Kc S lg it lg' it') (hs : ∀ j, S j → j < 55 ∨ 437 ≤ j) : CIs lg' it' V m := by
  have e55 : it' 55 = it 55 := (hk 55 (fun q => by have := hs _ q; omega)).2
  have c := cnt_le V m
  exact ⟨by rw [e55]; exact h.1, by rw [e55]; exact h.2.1, sk_k h.2.2.1 hk (fun j hj => by have := hs j hj; omega), wk_k h.2.2.2 hk (fun j hj => by have := hs j hj; omega)⟩
set_option maxRecDepth 100000 in
theorem f_X8_lastStopBy (a1 : Int32) {lg0 : LGt} {it0 : ITt} (hI : I8 lg0 it0) (V : Rlv) (hV : RV lg0 it0 2 V) (hVO : VO V) (hc : CI lg0 it0) : w_X8_lastStopBy a1 (fun (v : Int32) (lg' : LGt) (it' : ITt) => (I8 lg' it' ∧ Kc (fun j => (55 ≤ j ∧ j < 450) ∨ (486 ≤ j ∧ j < 489)) lg0 it0 lg' it') ∧ v.toInt = upI V a1 ∧ CIs lg' it' V 20 ∧ CI lg' it') lg0 it0 := by
  have hcl := cnt_le V 20
  generalize hp : (fun (v : Int32) (lg' : LGt) (it' : ITt) => (I8 lg' it' ∧ Kc (fun j => (55 ≤ j ∧ j < 450) ∨ (486 ≤ j ∧ j < 489)) lg0 it0 lg' it') ∧ v.toInt = upI V a1 ∧ CIs lg' it' V 20 ∧ CI lg' it') = Pz
  unfold w_X8_lastStopBy
  refine ⟨_, w20 hI V hV hVO hc, ?_⟩
  rintro lgA itA ⟨⟨JA, KA⟩, sA, CA⟩
  have lp : ∀ (n : Nat) (x : Int32) (lg : LGt) (it : ITt) (k : Nat), I8 lg it → Kc (fun j => (486 ≤ j ∧ j < 489)) lgA itA lg it → x.toInt = k → k ≤ cnt V 20 → upI V a1 = upS V a1.toInt64 (cnt V 20 - k) k → cnt V 20 - k < n → w_X8_lastStopBy_b18 a1 Pz n x lg it := by
    intro n
    induction n with
    | zero => intro x lg it k _ _ _ _ _ hn; exact absurd hn (Nat.not_lt_zero _)
    | succ n ih =>
      intro x lg it k hJ hK hx hk hU hn
      have s : CIs lg it V 20 := cis_k sA (Nat.le_refl _) hK (fun j hj => by omega)
      have C : CI lg it := ci_k CA hK (fun j hj => by omega)
      have K0 : Kc (fun j => (55 ≤ j ∧ j < 450) ∨ (486 ≤ j ∧ j < 489)) lg0 it0 lg it := kc_t (kc_t kc_r KA (fun j hj => Or.inl hj)) hK (fun j hj => Or.inr hj)
      have i0 : it 55 4 = 0 ↔ (runA V 20).1 = 0 := by rw [← s.2.1, ← ti_0]; exact Int32.toInt_inj.symm
      unfold w_X8_lastStopBy_b18
      rw [le0, s.1, hx]
      refine ⟨fun c => ?_, fun c => ?_⟩
      · obtain rfl : k = cnt V 20 := by omega
        rw [show cnt V 20 - cnt V 20 = 0 by omega] at hU
        refine ⟨fun c2 => ?_, fun c2 => ?_⟩
        · subst hp
          exact ⟨⟨hJ, K0⟩, by rw [hU, upS, if_neg (fun q => c2 (i0.mpr q))]; exact ti_m1, s, C⟩
        · subst hp
          exact ⟨⟨hJ, K0⟩, by rw [hU, upS, if_pos (i0.mp c2)]; exact s.1, s, C⟩
      have fx : (x + 1).toInt = x.toInt + 1 := ad32 rfl ti_1 (by omega) (by omega)
      have fxk : (x + 1).toInt = ((k + 1 : Nat) : Int) := by omega
      have k1 : (x + 1).toNatClampNeg = k + 1 := by have := cl32 (i := x + 1) (by omega); omega
      rw [show cnt V 20 - k = (cnt V 20 - (k + 1)) + 1 by omega] at hU
      rw [k1]
      intro lg12 m12 it13 m13
      refine ⟨vp_of (by omega) (by omega), ?_⟩
      intro q17 mq lg18 m18 it19 m19
      have J13 : I8 lg12 it13 := by rw [m13]; exact i8_u hJ (ok8_1 oq_486 (fun _ => Or.inl rfl))
      have K13 : Kc (fun j => (486 ≤ j ∧ j < 489)) lgA itA lg12 it13 := by rw [m12, m13]; exact kc_f (by omega) hK
      have J19 : I8 lg18 it19 := by rw [m19]; exact i8_u J13 (ok8_1 oq_486 (fun _ => by rw [mq]; exact stF_01 _ _ _ _ _))
      have K19 : Kc (fun j => (486 ≤ j ∧ j < 489)) lgA itA lg18 it19 := by rw [m18, m19]; exact kc_f (by omega) K13
      have e486 : fv lg12 it13 486 = (a1.toInt64, 1, 0) := by rw [m12, m13]; exact fv_a3
      have s13 : CIs lg12 it13 V 20 := cis_k sA (Nat.le_refl _) K13 (fun j hj => by omega)
      have eT : abF (fv lg12 it13 (75 + 18 * (k + 1))) = some (runA V (k + 1)).2.1 := (s13.2.2.1 (k + 1) (by omega)).2
      have aq : abF q17 = oL (some (a1.toInt64, 1)) (some (runA V (k + 1)).2.1) := by rw [mq, ab_l, e486, eT]; rfl
      have z486 : fv lg18 it19 486 = q17 := by rw [m18, m19]; exact fv_at
      have eo : it19 486 2 = q17.2.2 := congrArg (fun v : FV => v.2.2) z486
      have e0 : lg18 486 0 = q17.1 := congrArg (fun v : FV => v.1) z486
      have s19 : CIs lg18 it19 V 20 := cis_k sA (Nat.le_refl _) K19 (fun j hj => by omega)
      have C19 : CI lg18 it19 := ci_k CA K19 (fun j hj => by omega)
      have K9 : Kc (fun j => (55 ≤ j ∧ j < 450) ∨ (486 ≤ j ∧ j < 489)) lg0 it0 lg18 it19 := kc_t (kc_t kc_r KA (fun j hj => Or.inl hj)) K19 (fun j hj => Or.inr hj)
      rw [eo, e0]
      refine ⟨fun c2 => ?_, fun c2 => ?_⟩
      · have hr : oL (some (a1.toInt64, 1)) (some (runA V (k + 1)).2.1) = some (q17.1, q17.2.1) := aq.symm.trans (abF_0 c2)
        refine ⟨fun c3 => ih (x + 1) lg18 it19 (k + 1) J19 K19 fxk (by omega) (by rw [hU]; exact ups_g hr (nn64.mp c3)) (by omega), fun c3 => ?_⟩
        subst hp
        exact ⟨⟨J19, K9⟩, by rw [hU, ups_l hr (Classical.byContradiction fun q => c3 (nn64.mpr q))]; exact hx, s19, C19⟩
      · subst hp
        exact ⟨⟨J19, K9⟩, by rw [hU, ups_n (aq.symm.trans (abF_1 c2))]; exact ti_m1, s19, C19⟩
  exact ⟨_, lp (cnt V 20 + 1) 0 lgA itA 0 JA kc_r ti_0 (Nat.zero_le _) rfl (by omega)⟩
set_option maxRecDepth 100000 in
theorem f_X8_at (a1 a2 a3 : Int32) {lg0 : LGt} {it0 : ITt} (hI : I8 lg0 it0) (V : Rlv) (hV : RV lg0 it0 2 V) (hVO : VO V) (hc : CI lg0 it0) : w_X8_at a1 a2 a3 (fun (v : Int64) (lg' : LGt) (it' : ITt) => (I8 lg' it' ∧ Kc (fun j => (55 ≤ j ∧ j < 450) ∨ (486 ≤ j ∧ j < 489)) lg0 it0 lg' it') ∧ v = atA V a1 a2 a3 ∧ CI lg' it') lg0 it0 := by
  have hN := rN_f hI in_rb_2 hV
  have hcl := cnt_le V 20
  have h6 := hVO.1
  generalize hp : (fun (v : Int64) (lg' : LGt) (it' : ITt) => (I8 lg' it' ∧ Kc (fun j => (55 ≤ j ∧ j < 450) ∨ (486 ≤ j ∧ j < 489)) lg0 it0 lg' it') ∧ v = atA V a1 a2 a3 ∧ CI lg' it') = Pz
  have rf (h : ¬ (0 ≤ a1.toInt ∧ a1.toInt < rN V) ∨ ¬ (0 ≤ a2.toInt ∧ a2.toInt ≤ 99) ∨ ¬ (0 ≤ a3.toInt ∧ a3.toInt ≤ 1)) : Pz MNL lg0 it0 := by
    subst hp
    exact ⟨⟨hI, kc_r⟩, (at_n h).symm, hc⟩
  unfold w_X8_at
  rw [hN, lt0, lt0, ti_0, ti_99]
  refine ⟨fun c => rf (Or.inl c), fun c => ⟨fun c2 => rf (by omega), fun c2 => ⟨fun c3 => rf (by omega), fun c3 => ⟨fun c4 => ⟨_, f_X8_lastStopBy a2 hI V hV hVO hc, ?_⟩, fun c4 => rf (Or.inr (Or.inr c4))⟩⟩⟩⟩
  rintro v10 lgB itB ⟨⟨JB, KB⟩, hv, sB, CB⟩
  have hub := upi_b V a2
  have hi : a1.toNatClampNeg < rN V := by have := cl32 c.1; omega
  have hva : vp_in a1 6 := vp_of c.1 (by omega)
  rw [le0, ti_0, hv]
  refine ⟨fun c5 => ?_, fun c5 => by subst hp; exact ⟨⟨JB, KB⟩, (at_m c5).symm, CB⟩⟩
  obtain ⟨u, hu⟩ : ∃ u, (upI V a2).toNat = u := ⟨_, rfl⟩
  have eA := at_y c (by omega) c4 c5 hu
  have kv := cl32 (i := v10) (by omega)
  have hn : v10.toNatClampNeg = u := by omega
  have hnc : u ≤ cnt V 20 := by omega
  have hvv : vp_in v10 21 := vp_of (by omega) (by omega)
  have hiu : a1.toNatClampNeg < rN (runA V u).2.2 := by rw [rn_run]; exact hi
  have hu21 : u < 21 := by omega
  have hi6 : a1.toNatClampNeg < 6 := by omega
  rw [hn]
  intro lg18 m18 it19 m19
  have J19 : I8 lg18 it19 := by rw [m19]; exact i8_u JB (ok8_1 oq_488 (fun _ => Or.inl rfl))
  have K19 : Kc (fun j => (486 ≤ j ∧ j < 489)) lgB itB lg18 it19 := by rw [m18, m19]; exact kc_f (by omega) kc_r
  have e488 : fv lg18 it19 488 = (a2.toInt64, 1, 0) := by rw [m18, m19]; exact fv_a3
  have s19 : CIs lg18 it19 V 20 := cis_k sB (Nat.le_refl _) K19 (fun j hj => by omega)
  refine ⟨hvv, ?_⟩
  intro q23 mq23 lg24 m24 it25 m25
  have aq23 : abF q23 = oL (some (a2.toInt64, 1)) (some (runA V u).2.1) := by rw [mq23, ab_l, e488, (s19.2.2.1 u hnc).2]; rfl
  have J25 : I8 lg24 it25 := by rw [m25]; exact i8_u J19 (ok8_1 oq_488 (fun _ => by rw [mq23]; exact stF_01 _ _ _ _ _))
  have K25 : Kc (fun j => (486 ≤ j ∧ j < 489)) lgB itB lg24 it25 := by rw [m24, m25]; exact kc_f (by omega) K19
  have w488 : fv lg24 it25 488 = q23 := by rw [m24, m25]; exact fv_at
  have s25 : CIs lg24 it25 V 20 := cis_k sB (Nat.le_refl _) K25 (fun j hj => by omega)
  have R25 := (s25.2.2.1 u hnc).1
  refine ⟨hvv, hva, ib (i8_1 J25 (rpo5 (rst hu21) hi6)), ?_⟩
  intro lg31 m31 it32 m32
  have J32 : I8 lg31 it32 := by rw [m32]; exact i8_u J25 (ok8_1 oq_487 (fun _ => i8_1 J25 (rpo5 (rst hu21) hi6)))
  have K32 : Kc (fun j => (486 ≤ j ∧ j < 489)) lgB itB lg31 it32 := by rw [m31, m32]; exact kc_f (by omega) K25
  have e487 : fv lg31 it32 487 = fv lg24 it25 (58 + 18 * u + 5 + 2 * a1.toNatClampNeg) := by rw [m31, m32]; exact fv_a3
  have s487 : abF (fv lg31 it32 487) = some (rS (runA V u).2.2 a1.toNatClampNeg) := by rw [e487]; exact rS_f R25 hiu
  have x488 : fv lg31 it32 488 = fv lg24 it25 488 := by rw [m31, m32]; exact fv_ne (by decide)
  intro q36 mq36 lg37 m37 it38 m38
  have aq36 : abF q36 = oT (some (rS (runA V u).2.2 a1.toNatClampNeg)) (oL (some (a2.toInt64, 1)) (some (runA V u).2.1)) := by rw [mq36, ab_t, s487, x488, w488, aq23]
  have J38 : I8 lg37 it38 := by rw [m38]; exact i8_u J32 (ok8_1 oq_487 (fun _ => by rw [mq36]; exact stF_01 _ _ _ _ _))
  have K38 : Kc (fun j => (486 ≤ j ∧ j < 489)) lgB itB lg37 it38 := by rw [m37, m38]; exact kc_f (by omega) K32
  have w487 : fv lg37 it38 487 = q36 := by rw [m37, m38]; exact fv_at
  have s38 : CIs lg37 it38 V 20 := cis_k sB (Nat.le_refl _) K38 (fun j hj => by omega)
  have R38 := (s38.2.2.1 u hnc).1
  refine ⟨hvv, hva, ib (i8_1 J38 (rpo4 (rst hu21) hi6)), ?_⟩
  intro lg44 m44 it45 m45
  have J45 : I8 lg44 it45 := by rw [m45]; exact i8_u J38 (ok8_1 oq_486 (fun _ => i8_1 J38 (rpo4 (rst hu21) hi6)))
  have K45 : Kc (fun j => (486 ≤ j ∧ j < 489)) lgB itB lg44 it45 := by rw [m44, m45]; exact kc_f (by omega) K38
  have e486 : fv lg44 it45 486 = fv lg37 it38 (58 + 18 * u + 4 + 2 * a1.toNatClampNeg) := by rw [m44, m45]; exact fv_a3
  have s486 : abF (fv lg44 it45 486) = some (rP (runA V u).2.2 a1.toNatClampNeg) := by rw [e486]; exact rP_f R38 hiu
  have y487 : fv lg44 it45 487 = fv lg37 it38 487 := by rw [m44, m45]; exact fv_ne (by decide)
  intro q49 mq49 lg50 m50 it51 m51
  have aq49 : abF q49 = atN V a1.toNatClampNeg a2.toInt64 u := by rw [mq49, ab_p, s486, y487, w487, aq36]; rfl
  have J51 : I8 lg50 it51 := by rw [m51]; exact i8_u J45 (ok8_1 oq_486 (fun _ => by rw [mq49]; exact stF_01 _ _ _ _ _))
  have K51 : Kc (fun j => (486 ≤ j ∧ j < 489)) lgB itB lg50 it51 := by rw [m50, m51]; exact kc_f (by omega) K45
  have z486 : fv lg50 it51 486 = q49 := by rw [m50, m51]; exact fv_at
  subst hp
  exact ⟨⟨J51, kc_t KB K51 (fun j hj => Or.inr hj)⟩, by rw [eA]; exact hl_o (by rw [z486]; exact aq49), ci_k CB K51 (fun j hj => by omega)⟩
/-! the second side -/
theorem f_X9_upTo (a1 : Int32) {lg0 : LGt} {it0 : ITt} (hI : I9 lg0 it0) (V : Rlv) (hVO : VO V) (g1 : (it0 489 42).toInt = cnt V 20) (g2 : (it0 489 43).toInt = (runA V 20).1) (g3 : AK lg0 it0 V (cnt V 20)) : w_X9_upTo a1 (fun (v : Int32) (lg' : LGt) (it' : ITt) => (I9 lg' it' ∧ Kd (fun j => False) (fun k => k = 18 ∨ k = 19 ∨ k = 20) lg0 it0 lg' it') ∧ v.toInt = upI V a1) lg0 it0 := by
  have hcl := cnt_le V 20
  generalize hp : (fun (v : Int32) (lg' : LGt) (it' : ITt) => (I9 lg' it' ∧ Kd (fun j => False) (fun k => k = 18 ∨ k = 19 ∨ k = 20) lg0 it0 lg' it') ∧ v.toInt = upI V a1) = Pz
  have i0 : it0 489 43 = 0 ↔ (runA V 20).1 = 0 := by rw [← g2, ← ti_0]; exact Int32.toInt_inj.symm
  have lp : ∀ (n : Nat) (x : Int32) (lg : LGt) (it : ITt) (k : Nat), I9 lg it → Kd (fun j => False) (fun k => k = 18 ∨ k = 19 ∨ k = 20) lg0 it0 lg it → x.toInt = k → k ≤ cnt V 20 → upI V a1 = upS V a1.toInt64 (cnt V 20 - k) k → cnt V 20 - k < n → w_X9_upTo_b2 a1 Pz n x lg it := by
    intro n
    induction n with
    | zero => intro x lg it k _ _ _ _ _ hn; exact absurd hn (Nat.not_lt_zero _)
    | succ n ih =>
      intro x lg it k hJ hK hx hk hU hn
      have e42 : it 489 42 = it0 489 42 := (hK.2 42 (by omega)).2
      have e43 : it 489 43 = it0 489 43 := (hK.2 43 (by omega)).2
      unfold w_X9_upTo_b2
      rw [le0, e42, e43, g1, hx]
      refine ⟨fun c => ?_, fun c => ?_⟩
      · obtain rfl : k = cnt V 20 := by omega
        rw [show cnt V 20 - cnt V 20 = 0 by omega] at hU
        refine ⟨fun c2 => ?_, fun c2 => ?_⟩
        · subst hp
          exact ⟨⟨hJ, hK⟩, by rw [hU, upS, if_neg (fun q => c2 (i0.mpr q))]; exact ti_m1⟩
        · subst hp
          exact ⟨⟨hJ, hK⟩, by rw [hU, upS, if_pos (i0.mp c2)]; exact g1⟩
      have hxk : x.toNatClampNeg = k := by have := cl32 (i := x) (by omega); omega
      have fx : (x + 1).toInt = x.toInt + 1 := ad32 rfl ti_1 (by omega) (by omega)
      have fxk : (x + 1).toInt = ((k + 1 : Nat) : Int) := by omega
      rw [show cnt V 20 - k = (cnt V 20 - (k + 1)) + 1 by omega] at hU
      rw [hxk]
      intro it5 m5
      have J5 : I9 lg it5 := by rw [m5]; exact i9_u hJ (ok9_b (a := 0) (b := 1) rfl (by rw [ti_0]; omega)) (by decide) (fun _ => by decide)
      have K5 : Kd (fun j => False) (fun k => k = 18 ∨ k = 19 ∨ k = 20) lg0 it0 lg it5 := by rw [m5]; exact kd_uf (Or.inr (Or.inr rfl)) hK
      have z20 : it5 489 20 = 0 := by rw [m5, u2_eq]
      have l509 : lg 509 = lg0 509 := (hK.1 509 (by decide) (fun q => q)).1
      have l510 : lg 510 = lg0 510 := (hK.1 510 (by decide) (fun q => q)).1
      have eT : (lg 509 k, lg 510 k) = (runA V (k + 1)).2.1 := by rw [l509, l510]; exact (g3 k (by omega)).2.1
      have pT : 0 < (lg 510 k).toInt := by
        have h := (run_vo hVO (k + 1)).2
        rw [← eT] at h
        exact h
      have d510 : ¬ lg 510 k = 0 := fun q => by rw [q] at pT; exact absurd pT (by decide)
      refine ⟨vp_of (by omega) (by omega), vp_of (by omega) (by omega), i9_o J5, by decide, d510, ?_⟩
      intro q11 mq lg12 m12 it13 m13
      rw [z20] at mq
      obtain ⟨z1, z2, z3⟩ := sv_l (o := 0) (sv_c (a := a1.toInt64) (b := 1) (by decide)) (sv_c (a := lg 509 k) (b := lg 510 k) pT)
      rw [eT, ← mq] at z1
      rw [eT, ← mq] at z3
      have e20 : it13 489 20 = q11.2.2 := by rw [m13, setO_o]
      have e18 : lg12 489 18 = q11.1 := by rw [m12, setU_18]
      have J13 : I9 lg12 it13 := by rw [m12, m13]; exact i9_g J5 (by rw [mq]; exact gL_o (Or.inl rfl))
      have K13 : Kd (fun j => False) (fun k => k = 18 ∨ k = 19 ∨ k = 20) lg0 it0 lg12 it13 := by rw [m12, m13]; exact kd_g (Or.inl rfl) (Or.inr (Or.inl rfl)) (Or.inr (Or.inr rfl)) K5
      rw [e20, e18]
      refine ⟨fun c2 => ?_, fun c2 => ?_⟩
      · have hr := (z1 c2).1
        refine ⟨fun c3 => ih (x + 1) lg12 it13 (k + 1) J13 K13 fxk (by omega) (by rw [hU]; exact ups_g hr (nn64.mp c3)) (by omega), fun c3 => ?_⟩
        subst hp
        exact ⟨⟨J13, K13⟩, by rw [hU, ups_l hr (Classical.byContradiction fun q => c3 (nn64.mpr q))]; exact hx⟩
      · subst hp
        exact ⟨⟨J13, K13⟩, by rw [hU, ups_n ((z3 c2).resolve_left (fun q => q rfl))]; exact ti_m1⟩
  unfold w_X9_upTo
  exact ⟨_, lp (cnt V 20 + 1) 0 lg0 it0 0 hI kd_r ti_0 (Nat.zero_le _) rfl (by omega)⟩
/-- the last steps: speed times what is left, to the place -/
theorem at_9 {a1 a2 a3 : Int32} {Pz : Int64 → LGt → ITt → Prop} {lgA : LGt} {itA : ITt} {x4 x5 : Int32} {P S T : QQ} (hP : 0 < P.2.toInt) (hS : 0 < S.2.toInt) (hT : 0 < T.2.toInt) (fin : ∀ (lg : LGt) (it : ITt), I9 lg it → Kd (fun j => False) (fun k => k = 18 ∨ k = 19 ∨ k = 20) lgA itA lg it → Pz (hfO (oP (some P) (oT (some S) (oL (some (a2.toInt64, 1)) (some T)))) a3) lg it)
    (pl : (¬ x4 = 0 → vp_in x5 240 ∧ lgA 511 x5.toNatClampNeg = P.1 ∧ lgA 512 x5.toNatClampNeg = P.2) ∧ (x4 = 0 → vp_in a1 6 ∧ lgA 491 a1.toNatClampNeg = P.1 ∧ lgA 492 a1.toNatClampNeg = P.2))
    (sl : (¬ x4 = 0 → vp_in (x5 + 6) 240 ∧ lgA 511 (x5 + 6).toNatClampNeg = S.1 ∧ lgA 512 (x5 + 6).toNatClampNeg = S.2) ∧ (x4 = 0 → vp_in a1 6 ∧ lgA 493 a1.toNatClampNeg = S.1 ∧ lgA 494 a1.toNatClampNeg = S.2))
    (tl : (¬ x4 = 0 → vp_in (x4 - 1) 20 ∧ lgA 510 (x4 - 1).toNatClampNeg = T.2) ∧ (x4 = 0 → (1 : Int64) = T.2)) {lg : LGt} {it : ITt} (hJ : I9 lg it) (hK : Kd (fun j => False) (fun k => k = 18 ∨ k = 19 ∨ k = 20) lgA itA lg it) (hO : it 489 20 = 0) : w_X9_at_b89 a1 a2 a3 Pz x4 x5 T.1 1 a2.toInt64 lg it := by
  generalize hD : oL (some (a2.toInt64, (1 : Int64))) (some T) = D at fin
  have dn {q : Int64} (h : 0 < q.toInt) : ¬ q = 0 := fun z => by rw [z] at h; exact absurd h (by decide)
  have rw0 {lg1 : LGt} {it1 : ITt} (k : Kd (fun j => False) (fun k => k = 18 ∨ k = 19 ∨ k = 20) lgA itA lg1 it1) (j : Nat) (hj : j ≠ 489) : lg1 j = lgA j := (k.1 j hj (fun q => q)).1
  have b213 : ∀ (lg1 : LGt) (it1 : ITt), I9 lg1 it1 → Kd (fun j => False) (fun k => k = 18 ∨ k = 19 ∨ k = 20) lgA itA lg1 it1 → Sv (it1 489 20) (lg1 489 18) (lg1 489 19) (oT (some S) D) → (¬ it1 489 20 = 0 → oT (some S) D = none) → ¬ lg1 489 19 = 0 → w_X9_at_b213 a1 a2 a3 Pz P.2 P.1 lg1 it1 := by
    intro lg1 it1 J1 K1 s1 o1 d1
    unfold w_X9_at_b213
    refine ⟨i9_o J1, dn hP, d1, ?_⟩
    intro q77 mq lg78 m78 it79 m79
    obtain ⟨z1, z2, z3⟩ := sv_p (sv_c (o := it1 489 20) (a := P.1) (b := P.2) hP) s1
    rw [← mq] at z1
    rw [← mq] at z3
    have e20 : it79 489 20 = q77.2.2 := by rw [m79, setO_o]
    have e18 : lg78 489 18 = q77.1 := by rw [m78, setU_18]
    have e19 : lg78 489 19 = q77.2.1 := by rw [m78, setU_19]
    have J79 : I9 lg78 it79 := by rw [m78, m79]; exact i9_g J1 (by rw [mq]; exact gP_o (i9_o J1))
    have K79 : Kd (fun j => False) (fun k => k = 18 ∨ k = 19 ∨ k = 20) lgA itA lg78 it79 := by rw [m78, m79]; exact kd_g (Or.inl rfl) (Or.inr (Or.inl rfl)) (Or.inr (Or.inr rfl)) K1
    have f89 (it89 : ITt) (m89 : it89 = u2 it79 489 20 (0 : Int32)) : Pz (hfO (oP (some P) (oT (some S) D)) a3) lg78 it89 := fin lg78 it89 (by rw [m89]; exact i9_u J79 (ok9_b (a := 0) (b := 1) rfl (by rw [ti_0]; omega)) (by decide) (fun _ => by decide)) (by rw [m89]; exact kd_uf (Or.inr (Or.inr rfl)) K79)
    rw [e20]
    refine ⟨fun c => ?_, fun c => ?_⟩
    · unfold w_X9_at_b236
      intro it89 m89
      have e : oP (some P) (oT (some S) D) = none := by
        rcases z3 c with h | h
        · rw [o1 h]; rfl
        · exact h
      have f := f89 it89 m89
      rw [e] at f
      exact ⟨fun _ => f, fun c2 => absurd rfl c2⟩
    · unfold w_X9_at_b236
      intro it89 m89
      have e : oP (some P) (oT (some S) D) = some (q77.1, q77.2.1) := (z1 c).1
      have f := f89 it89 m89
      rw [e] at f
      have f : Pz (half (q77.1, q77.2.1) a3) lg78 it89 := f
      rw [e18, e19]
      refine ⟨fun c2 => absurd c2 (by decide), fun _ => ⟨fun c3 => ?_, fun c3 => ?_⟩⟩
      · unfold half at f; rw [if_neg c3] at f; exact f
      · unfold half at f; rw [if_pos c3] at f; exact f
  have b192 : ∀ (lg1 : LGt) (it1 : ITt), I9 lg1 it1 → Kd (fun j => False) (fun k => k = 18 ∨ k = 19 ∨ k = 20) lgA itA lg1 it1 → Sv (it1 489 20) (lg1 489 18) (lg1 489 19) (oT (some S) D) → (¬ it1 489 20 = 0 → oT (some S) D = none) → ¬ lg1 489 19 = 0 → w_X9_at_b192 a1 a2 a3 Pz x4 x5 P.1 lg1 it1 := by
    intro lg1 it1 J1 K1 s1 o1 d1
    have h := b213 lg1 it1 J1 K1 s1 o1 d1
    unfold w_X9_at_b192
    rw [rw0 K1 512 (by decide), rw0 K1 492 (by decide)]
    exact ⟨fun z => ⟨(pl.1 z).1, by rw [(pl.1 z).2.2]; exact h⟩, fun z => ⟨(pl.2 z).1, by rw [(pl.2 z).2.2]; exact h⟩⟩
  have b159 : ∀ (lg1 : LGt) (it1 : ITt), I9 lg1 it1 → Kd (fun j => False) (fun k => k = 18 ∨ k = 19 ∨ k = 20) lgA itA lg1 it1 → Sv (it1 489 20) (lg1 489 18) (lg1 489 19) D → (¬ it1 489 20 = 0 → D = none) → ¬ lg1 489 19 = 0 → w_X9_at_b159 a1 a2 a3 Pz x4 x5 S.2 S.1 lg1 it1 := by
    intro lg1 it1 J1 K1 s1 o1 d1
    unfold w_X9_at_b159
    refine ⟨i9_o J1, dn hS, d1, ?_⟩
    intro q55 mq lg56 m56 it57 m57
    obtain ⟨z1, z2, z3⟩ := sv_t (sv_c (o := it1 489 20) (a := S.1) (b := S.2) hS) s1
    rw [← mq] at z1
    rw [← mq] at z3
    have e20 : it57 489 20 = q55.2.2 := by rw [m57, setO_o]
    have e18 : lg56 489 18 = q55.1 := by rw [m56, setU_18]
    have e19 : lg56 489 19 = q55.2.1 := by rw [m56, setU_19]
    have J57 : I9 lg56 it57 := by rw [m56, m57]; exact i9_g J1 (by rw [mq]; exact gT_o (i9_o J1))
    have K57 : Kd (fun j => False) (fun k => k = 18 ∨ k = 19 ∨ k = 20) lgA itA lg56 it57 := by rw [m56, m57]; exact kd_g (Or.inl rfl) (Or.inr (Or.inl rfl)) (Or.inr (Or.inr rfl)) K1
    have h := b192 lg56 it57 J57 K57 (by rw [e20, e18, e19]; exact z1) (fun c => by
      rw [e20] at c
      rcases z3 c with h | h
      · rw [o1 h]; rfl
      · exact h) (by rw [e19, mq]; exact gT_d (dn hS) d1)
    rw [rw0 K57 511 (by decide), rw0 K57 491 (by decide)]
    exact ⟨fun z => ⟨(pl.1 z).1, by rw [(pl.1 z).2.1]; exact h⟩, fun z => ⟨(pl.2 z).1, by rw [(pl.2 z).2.1]; exact h⟩⟩
  have b135 : ∀ (lg1 : LGt) (it1 : ITt), I9 lg1 it1 → Kd (fun j => False) (fun k => k = 18 ∨ k = 19 ∨ k = 20) lgA itA lg1 it1 → Sv (it1 489 20) (lg1 489 18) (lg1 489 19) D → (¬ it1 489 20 = 0 → D = none) → ¬ lg1 489 19 = 0 → w_X9_at_b135 a1 a2 a3 Pz x4 x5 S.1 lg1 it1 := by
    intro lg1 it1 J1 K1 s1 o1 d1
    have h := b159 lg1 it1 J1 K1 s1 o1 d1
    unfold w_X9_at_b135
    rw [rw0 K1 512 (by decide), rw0 K1 494 (by decide)]
    exact ⟨fun z => ⟨(sl.1 z).1, by rw [(sl.1 z).2.2]; exact h⟩, fun z => ⟨(sl.2 z).1, by rw [(sl.2 z).2.2]; exact h⟩⟩
  have b107 : w_X9_at_b107 a1 a2 a3 Pz x4 x5 T.2 T.1 1 a2.toInt64 lg it := by
    unfold w_X9_at_b107
    refine ⟨i9_o hJ, by decide, dn hT, ?_⟩
    intro q33 mq lg34 m34 it35 m35
    rw [hO] at mq
    obtain ⟨z1, z2, z3⟩ := sv_l (o := 0) (sv_c (a := a2.toInt64) (b := 1) (by decide)) (sv_c (a := T.1) (b := T.2) hT)
    rw [← mq] at z1
    rw [← mq] at z3
    have eD : oL (some (a2.toInt64, (1 : Int64))) (some (T.1, T.2)) = D := hD
    rw [eD] at z1
    rw [eD] at z3
    have e20 : it35 489 20 = q33.2.2 := by rw [m35, setO_o]
    have e18 : lg34 489 18 = q33.1 := by rw [m34, setU_18]
    have e19 : lg34 489 19 = q33.2.1 := by rw [m34, setU_19]
    have J35 : I9 lg34 it35 := by rw [m34, m35]; exact i9_g hJ (by rw [mq]; exact gL_o (Or.inl rfl))
    have K35 : Kd (fun j => False) (fun k => k = 18 ∨ k = 19 ∨ k = 20) lgA itA lg34 it35 := by rw [m34, m35]; exact kd_g (Or.inl rfl) (Or.inr (Or.inl rfl)) (Or.inr (Or.inr rfl)) hK
    have h := b135 lg34 it35 J35 K35 (by rw [e20, e18, e19]; exact z1) (fun c => by
      rw [e20] at c
      exact (z3 c).resolve_left (fun q => q rfl)) (by rw [e19, mq]; exact gL_d (by decide) (dn hT))
    rw [rw0 K35 511 (by decide), rw0 K35 493 (by decide)]
    exact ⟨fun z => ⟨(sl.1 z).1, by rw [(sl.1 z).2.1]; exact h⟩, fun z => ⟨(sl.2 z).1, by rw [(sl.2 z).2.1]; exact h⟩⟩
  unfold w_X9_at_b89
  rw [rw0 hK 510 (by decide)]
  exact ⟨fun z => ⟨(tl.1 z).1, by rw [(tl.1 z).2]; exact b107⟩, fun z => (congrArg (fun d : Int64 => w_X9_at_b107 a1 a2 a3 Pz x4 x5 d T.1 1 a2.toInt64 lg it) (tl.2 z)).mpr b107⟩
theorem f_X9_at (a1 a2 a3 : Int32) {lg0 : LGt} {it0 : ITt} (hI : I9 lg0 it0) (hVO : VO (vw9 lg0 it0)) : w_X9_at a1 a2 a3 (fun (v : Int64) (lg' : LGt) (it' : ITt) => (I9 lg' it' ∧ Kd (fun j => 501 ≤ j ∧ j ≤ 512) (fun k => k = 18 ∨ k = 19 ∨ k = 20 ∨ (28 ≤ k ∧ k ≤ 43)) lg0 it0 lg' it') ∧ v = atA (vw9 lg0 it0) a1 a2 a3) lg0 it0 := by
  obtain ⟨hn, h6, hs⟩ := n9_b hI
  generalize hV : vw9 lg0 it0 = V at hn h6 hVO
  have hcl := cnt_le V 20
  have t99 : ((99 : Int64) : Int64).toInt = 99 := by decide
  generalize hp : (fun (v : Int64) (lg' : LGt) (it' : ITt) => (I9 lg' it' ∧ Kd (fun j => 501 ≤ j ∧ j ≤ 512) (fun k => k = 18 ∨ k = 19 ∨ k = 20 ∨ (28 ≤ k ∧ k ≤ 43)) lg0 it0 lg' it') ∧ v = atA V a1 a2 a3) = Pz
  have rf (h : ¬ (0 ≤ a1.toInt ∧ a1.toInt < rN V) ∨ ¬ (0 ≤ a2.toInt ∧ a2.toInt ≤ 99) ∨ ¬ (0 ≤ a3.toInt ∧ a3.toInt ≤ 1)) : Pz MNL lg0 it0 := by
    subst hp
    exact ⟨⟨hI, kd_r⟩, (at_n h).symm⟩
  unfold w_X9_at
  rw [hs, hn, Int32.toInt_toInt64, tl_0, t99]
  refine ⟨fun c => rf (by omega), fun c => ⟨fun c2 => rf (by omega), fun c2 => ⟨fun c4 => ⟨_, f_X9_findAll hI (by rw [hV]; exact hVO), ?_⟩, fun c4 => rf (Or.inr (Or.inr c4))⟩⟩⟩
  rw [hV]
  rintro lgA itA ⟨⟨JA, KA0⟩, _, g1, g2, g3, _⟩
  have KA := kdA KA0
  have WA := wAll KA
  rw [hV] at WA
  refine ⟨_, f_X9_upTo a2 JA V hVO g1 g2 g3, ?_⟩
  rintro v15 lgB itB ⟨⟨JB, KB⟩, hv⟩
  intro it21 m21
  have J21 : I9 lgB it21 := by rw [m21]; exact i9_u JB (ok9_b (a := 0) (b := 1) rfl (by rw [ti_0]; omega)) (by decide) (fun _ => by decide)
  have K21 : Kd (fun j => False) (fun k => k = 18 ∨ k = 19 ∨ k = 20) lgA itA lgB it21 := by rw [m21]; exact kd_uf (Or.inr (Or.inr rfl)) KB
  have z20 : it21 489 20 = 0 := by rw [m21, u2_eq]
  have hub := upi_b V a2
  have c1 : 0 ≤ a1.toInt ∧ a1.toInt < rN V := by omega
  rw [le0, ti_0, hv]
  have fn (lg : LGt) (it : ITt) (J : I9 lg it) (K : Kd (fun j => False) (fun k => k = 18 ∨ k = 19 ∨ k = 20) lgA itA lg it) : I9 lg it ∧ Kd (fun j => 501 ≤ j ∧ j ≤ 512) (fun k => k = 18 ∨ k = 19 ∨ k = 20 ∨ (28 ≤ k ∧ k ≤ 43)) lg0 it0 lg it := ⟨J, kd_t KA K (fun j hj => hj.elim) (fun k hk => by omega)⟩
  refine ⟨fun c5 => ?_, fun c5 => by subst hp; exact ⟨fn lgB it21 J21 K21, (at_m c5).symm⟩⟩
  obtain ⟨u, hu⟩ : ∃ u, (upI V a2).toNat = u := ⟨_, rfl⟩
  have eA := at_y (b := a3) c1 c2 c4 c5 hu
  have hnc : u ≤ cnt V 20 := by omega
  have hvu : v15.toInt = (u : Int) := by omega
  have hi : a1.toNatClampNeg < rN V := by have := cl32 c1.1; omega
  have ki := cl32 c1.1
  have hva : vp_in a1 6 := vp_of c1.1 (by omega)
  have zu : v15 = 0 ↔ u = 0 := by
    rw [← Int32.toInt_inj, ti_0, hvu]
    omega
  have vo := run_vo hVO u
  have rA (j : Nat) (hj : j ≠ 489) : lgB j = lgA j := (K21.1 j hj (fun q => q)).1
  have main := at_9 (a1 := a1) (a2 := a2) (a3 := a3) (Pz := Pz) (lgA := lgA) (itA := itA) (x4 := v15) (x5 := 12 * (v15 - 1) + a1) (P := rP (runA V u).2.2 a1.toNatClampNeg) (S := rS (runA V u).2.2 a1.toNatClampNeg) (T := (runA V u).2.1) (vo.1.2.1 _).1 (vo.1.2.1 _).2 vo.2
    (fun lg it J K => by
      subst hp
      exact ⟨fn lg it J K, eA.symm⟩)
  have bs (h : ¬ v15 = 0) : (v15 - 1).toInt = (u : Int) - 1 ∧ (v15 - 1).toNatClampNeg = u - 1 ∧ (12 * (v15 - 1) + a1).toInt = 12 * ((u : Int) - 1) + a1.toInt ∧ (12 * (v15 - 1) + a1 + 6).toInt = 12 * ((u : Int) - 1) + a1.toInt + 6 := by
    have h0 : ¬ u = 0 := fun q => h (zu.mpr q)
    have m0 : (v15 - 1).toInt = (u : Int) - 1 := sb32 hvu ti_1 (by omega) (by omega)
    have m1 : (12 * (v15 - 1)).toInt = 12 * ((u : Int) - 1) := ml32 ti_12 m0 (by omega) (by omega)
    have m2 : (12 * (v15 - 1) + a1).toInt = 12 * ((u : Int) - 1) + a1.toInt := ad32 m1 rfl (by omega) (by omega)
    have m3 : (12 * (v15 - 1) + a1 + 6).toInt = 12 * ((u : Int) - 1) + a1.toInt + 6 := ad32 m2 ti_6 (by omega) (by omega)
    have k0 := cl32 (i := v15 - 1) (by omega)
    exact ⟨m0, by omega, m2, m3⟩
  have fx (h : ¬ v15 = 0) : vp_in (v15 - 1) 20 ∧ (lgA 509 (v15 - 1).toNatClampNeg, lgA 510 (v15 - 1).toNatClampNeg) = (runA V u).2.1 ∧ vp_in (12 * (v15 - 1) + a1) 240 ∧ (lgA 511 (12 * (v15 - 1) + a1).toNatClampNeg, lgA 512 (12 * (v15 - 1) + a1).toNatClampNeg) = rP (runA V u).2.2 a1.toNatClampNeg ∧ vp_in (12 * (v15 - 1) + a1 + 6) 240 ∧ (lgA 511 (12 * (v15 - 1) + a1 + 6).toNatClampNeg, lgA 512 (12 * (v15 - 1) + a1 + 6).toNatClampNeg) = rS (runA V u).2.2 a1.toNatClampNeg := by
    have h0 : ¬ u = 0 := fun q => h (zu.mpr q)
    obtain ⟨m0, e0, m2, m3⟩ := bs h
    have k2 := cl32 (i := 12 * (v15 - 1) + a1) (by omega)
    have k3 := cl32 (i := 12 * (v15 - 1) + a1 + 6) (by omega)
    obtain ⟨_, gT, g⟩ := g3 (u - 1) (by omega)
    obtain ⟨gP, gS⟩ := g a1.toNatClampNeg hi
    rw [show u - 1 + 1 = u by omega] at gT gP gS
    refine ⟨vp_of (by omega) (by omega), ?_, vp_of (by omega) (by omega), ?_, vp_of (by omega) (by omega), ?_⟩
    · rw [e0]; exact gT
    · rw [show (12 * (v15 - 1) + a1).toNatClampNeg = 12 * (u - 1) + a1.toNatClampNeg by omega]; exact gP
    · rw [show (12 * (v15 - 1) + a1 + 6).toNatClampNeg = 12 * (u - 1) + 6 + a1.toNatClampNeg by omega]; exact gS
  have fz (h : v15 = 0) : (runA V u).2.1 = ((0 : Int64), (1 : Int64)) ∧ rP (runA V u).2.2 a1.toNatClampNeg = (lgA 491 a1.toNatClampNeg, lgA 492 a1.toNatClampNeg) ∧ rS (runA V u).2.2 a1.toNatClampNeg = (lgA 493 a1.toNatClampNeg, lgA 494 a1.toNatClampNeg) := by
    obtain rfl : u = 0 := zu.mp h
    have e1 := wP9 (lg := lgA) (it := itA) (i := a1.toNatClampNeg) (by rw [WA]; exact hi)
    have e2 := wS9 (lg := lgA) (it := itA) (i := a1.toNatClampNeg) (by rw [WA]; exact hi)
    rw [WA] at e1 e2
    exact ⟨rfl, e1, e2⟩
  have fin := main ⟨fun h => ⟨(fx h).2.2.1, congrArg Prod.fst (fx h).2.2.2.1, congrArg Prod.snd (fx h).2.2.2.1⟩, fun h => ⟨hva, (congrArg Prod.fst (fz h).2.1).symm, (congrArg Prod.snd (fz h).2.1).symm⟩⟩ ⟨fun h => ⟨(fx h).2.2.2.2.1, congrArg Prod.fst (fx h).2.2.2.2.2, congrArg Prod.snd (fx h).2.2.2.2.2⟩, fun h => ⟨hva, (congrArg Prod.fst (fz h).2.2).symm, (congrArg Prod.snd (fz h).2.2).symm⟩⟩ ⟨fun h => ⟨(fx h).1, congrArg Prod.snd (fx h).2.1⟩, fun h => (congrArg Prod.snd (fz h).1).symm⟩ J21 K21 z20
  rw [rA 509 (by decide)]
  refine ⟨fun c6 => ⟨(fx c6).1, ?_⟩, fun c6 => ?_⟩
  · rw [show lgA 509 (v15 - 1).toNatClampNeg = (runA V u).2.1.1 from congrArg Prod.fst (fx c6).2.1]; exact fin
  · rw [show (0 : Int64) = (runA V u).2.1.1 from (congrArg Prod.fst (fz c6).1).symm]; exact fin
