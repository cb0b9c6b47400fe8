/-! judge, on both sides -/
/-- the first item that isn't where the strike is -/
noncomputable def jdF (V : Rlv) (i z : Int) (x : Nat → Int64) : Nat → Nat → Int
  | 0, _ => -5
  | f + 1, k => if i < 0 ∨ z ≤ i + k then 100 + k else if (x (i.toNat + k)).toInt = whr V k then jdF V i z x f (k + 1) else k
theorem jd_e {V : Rlv} {i z : Int} {x : Nat → Int64} {f k : Nat} (h : i < 0 ∨ z ≤ i + k) : jdF V i z x (f + 1) k = 100 + k := by
  rw [jdF]
  exact if_pos h
theorem jd_n {V : Rlv} {i z : Int} {x : Nat → Int64} {f k : Nat} (h : ¬ (i < 0 ∨ z ≤ i + k)) (h2 : ¬ (x (i.toNat + k)).toInt = whr V k) : jdF V i z x (f + 1) k = k := by
  rw [jdF, if_neg h]
  exact if_neg h2
theorem jd_s {V : Rlv} {i z : Int} {x : Nat → Int64} {f k : Nat} (h : ¬ (i < 0 ∨ z ≤ i + k)) (h2 : (x (i.toNat + k)).toInt = whr V k) : jdF V i z x (f + 1) k = jdF V i z x f (k + 1) := by
  rw [jdF, if_neg h]
  exact if_pos h2
theorem jd_x {V : Rlv} {i z : Int} {x y : Nat → Int64} (h : ∀ k, k < 60 → x k = y k) (hz : z ≤ 60) : ∀ f k, jdF V i z x f k = jdF V i z y f k
  | 0, _ => rfl
  | f + 1, k => by
    by_cases c : i < 0 ∨ z ≤ i + k
    · rw [jd_e c, jd_e c]
    · have e := h (i.toNat + k) (by omega)
      by_cases c2 : (x (i.toNat + k)).toInt = whr V k
      · rw [jd_s c c2, jd_s c (by rw [← e]; exact c2), jd_x h hz f (k + 1)]
      · rw [jd_n c c2, jd_n c (by rw [← e]; exact c2)]
noncomputable def jdI (V : Rlv) (a i : Int32) (s z : Int) (x : Nat → Int64) : Int := if ¬ (0 ≤ a.toInt ∧ a.toInt ≤ 5) then -1 else if 0 < s then -12 else jdF V i.toInt z x (cnt V 20) 0
theorem jd_1 {V : Rlv} {a i : Int32} {s z : Int} {x : Nat → Int64} (h : ¬ (0 ≤ a.toInt ∧ a.toInt ≤ 5)) : jdI V a i s z x = -1 := if_pos h
theorem jd_2 {V : Rlv} {a i : Int32} {s z : Int} {x : Nat → Int64} (h : 0 ≤ a.toInt ∧ a.toInt ≤ 5) (h2 : 0 < s) : jdI V a i s z x = -12 := by
  unfold jdI
  rw [if_neg (not_not_intro h), if_pos h2]
theorem jd_3 {V : Rlv} {a i : Int32} {s z : Int} {x : Nat → Int64} (h : 0 ≤ a.toInt ∧ a.toInt ≤ 5) (h2 : ¬ 0 < s) : jdI V a i s z x = jdF V i.toInt z x (cnt V 20) 0 := by
  unfold jdI
  rw [if_neg (not_not_intro h), if_neg h2]
theorem it64 {x : Int64} {w : Int32} {W : Int} (h : w.toInt = W) : x = w.toInt64 ↔ x.toInt = W := by
  rw [← Int64.toInt_inj, Int32.toInt_toInt64, h]
theorem f_X8_judge (a1 a2 : Int32) {lg0 : LGt} {it0 : ITt} (hI : I8 lg0 it0) (V : Rlv) (hV : RV lg0 it0 2 V) (hVO : VO V) (hc : CI lg0 it0) (hT : ∀ t : Nat, t < 6 → -1 ≤ (it0 (474 + 2 * t) 0).toInt) : w_X8_judge a1 a2 (fun (v : Int32) (lg' : LGt) (it' : ITt) => (I8 lg' it' ∧ Kc (fun j => (55 ≤ j ∧ j < 450)) lg0 it0 lg' it') ∧ v.toInt = jdI V a1 a2 (it0 (474 + 2 * a1.toNatClampNeg) 0).toInt (it0 (474 + 2 * a1.toNatClampNeg) 1).toInt (f8 lg0 a1.toNatClampNeg) ∧ CI lg' it') lg0 it0 := by
  have hcl := cnt_le V 20
  have tm5 : (-5 : Int32).toInt = -5 := by decide
  generalize hp : (fun (v : Int32) (lg' : LGt) (it' : ITt) => (I8 lg' it' ∧ Kc (fun j => (55 ≤ j ∧ j < 450)) lg0 it0 lg' it') ∧ v.toInt = jdI V a1 a2 (it0 (474 + 2 * a1.toNatClampNeg) 0).toInt (it0 (474 + 2 * a1.toNatClampNeg) 1).toInt (f8 lg0 a1.toNatClampNeg) ∧ CI lg' it') = Pz
  unfold w_X8_judge
  refine ⟨fun c => ?_, fun c => by subst hp; exact ⟨⟨hI, kc_r⟩, ti_m1.trans (jd_1 c).symm, hc⟩⟩
  have hn := rt_n c
  have b := i8_6 hI (obt (rtp hn))
  have hs := hT _ hn
  have hva : vp_in a1 6 := vp_of c.1 (by omega)
  have b34 : ¬ 0 < (it0 (474 + 2 * a1.toNatClampNeg) 0).toInt → w_X8_judge_b34 a1 a2 Pz lg0 it0 := by
    intro hz
    have eJ : jdI V a1 a2 (it0 (474 + 2 * a1.toNatClampNeg) 0).toInt (it0 (474 + 2 * a1.toNatClampNeg) 1).toInt (f8 lg0 a1.toNatClampNeg) = jdF V a2.toInt (it0 (474 + 2 * a1.toNatClampNeg) 1).toInt (f8 lg0 a1.toNatClampNeg) (cnt V 20) 0 := jd_3 c hz
    rw [eJ] at hp
    unfold w_X8_judge_b34
    refine ⟨_, w20 hI V hV hVO hc, ?_⟩
    rintro lgA itA ⟨⟨J, K⟩, s, C⟩
    have i0 : itA 55 3 = 0 ↔ cnt V 20 = 0 := by
      rw [← Int32.toInt_inj, s.1, ti_0]
      omega
    have ez : itA (474 + 2 * a1.toNatClampNeg) = it0 (474 + 2 * a1.toNatClampNeg) := (K _ (by omega)).2
    have el : lgA (474 + 2 * a1.toNatClampNeg + 1) = lg0 (474 + 2 * a1.toNatClampNeg + 1) := (K _ (by omega)).1
    rw [i0]
    refine ⟨fun c2 => ?_, fun c2 => by subst hp; exact ⟨⟨J, K⟩, by rw [c2]; exact tm5, C⟩⟩
    obtain ⟨m, hm⟩ : ∃ m, cnt V 20 = m + 1 := ⟨cnt V 20 - 1, by omega⟩
    rw [le0, ti_0]
    refine ⟨fun c3 => ?_, fun c3 => by subst hp; exact ⟨⟨J, K⟩, by rw [hm, jd_e (Or.inl (by omega))]; exact ti_100, C⟩⟩
    have k2 := cl32 c3
    have lp : ∀ (n : Nat) (x : Int32) (k : Nat), x.toInt = k → k ≤ cnt V 20 → jdF V a2.toInt (it0 (474 + 2 * a1.toNatClampNeg) 1).toInt (f8 lg0 a1.toNatClampNeg) (cnt V 20) 0 = jdF V a2.toInt (it0 (474 + 2 * a1.toNatClampNeg) 1).toInt (f8 lg0 a1.toNatClampNeg) (cnt V 20 - k) k → cnt V 20 - k < n → w_X8_judge_b73 a1 a2 Pz n x lgA itA := by
      intro n
      induction n with
      | zero => intro x k _ _ _ hn; exact absurd hn (Nat.not_lt_zero _)
      | succ n ih =>
        intro x k hx hk hF hn
        unfold w_X8_judge_b73
        rw [le0, s.1, hx, ez, el]
        refine ⟨fun c4 => ?_, fun c4 => ?_⟩
        · subst hp
          exact ⟨⟨J, K⟩, by rw [hF, show cnt V 20 - k = 0 by omega]; exact tm5, C⟩
        have hxk : x.toNatClampNeg = k := by have := cl32 (i := x) (by omega); omega
        have fx : (x + 1).toInt = x.toInt + 1 := ad32 rfl ti_1 (by omega) (by omega)
        have fh : (100 + x).toInt = 100 + x.toInt := ad32 ti_100 rfl (by omega) (by omega)
        have fz : (it0 (474 + 2 * a1.toNatClampNeg) 1 - x).toInt = (it0 (474 + 2 * a1.toNatClampNeg) 1).toInt - x.toInt := sb32 rfl rfl (by omega) (by omega)
        rw [show cnt V 20 - k = (cnt V 20 - (k + 1)) + 1 by omega] at hF
        rw [lt0, fz]
        refine ⟨fun c5 => ?_, fun c5 => by subst hp; exact ⟨⟨J, K⟩, by rw [hF, jd_e (Or.inr (by omega)), fh, hx], C⟩⟩
        have fa : (a2 + x).toInt = a2.toInt + x.toInt := ad32 rfl rfl (by omega) (by omega)
        have ka := cl32 (i := a2 + x) (by omega)
        have kn : (a2 + x).toNatClampNeg = a2.toInt.toNat + k := by omega
        have nn : ¬ (a2.toInt < 0 ∨ (it0 (474 + 2 * a1.toNatClampNeg) 1).toInt ≤ a2.toInt + k) := by omega
        rw [hxk, kn, it64 (s.2.2.2 k (by omega))]
        refine ⟨vp_of (by omega) (by omega), vp_of (by omega) (by omega), fun c6 => ?_, fun c6 => ?_⟩
        · exact ih (x + 1) (k + 1) (by omega) (by omega) (by rw [hF]; exact jd_s nn c6) (by omega)
        · subst hp
          exact ⟨⟨J, K⟩, by rw [hF]; exact hx.trans (jd_n nn c6).symm, C⟩
    exact ⟨_, lp (cnt V 20 + 1) 0 0 ti_0 (Nat.zero_le _) rfl (by omega)⟩
  have t12 : (-12 : Int32).toInt = -12 := by decide
  refine ⟨hva, fun c2 => b34 (by rw [c2, ti_m1]; omega), fun c2 => ⟨fun c3 => b34 (by rw [c3, ti_0]; omega), fun c3 => ?_⟩⟩
  have n1 : ¬ (it0 (474 + 2 * a1.toNatClampNeg) 0).toInt = -1 := fun q => c2 (Int32.toInt_inj.mp (q.trans ti_m1.symm))
  have n0 : ¬ (it0 (474 + 2 * a1.toNatClampNeg) 0).toInt = 0 := fun q => c3 (Int32.toInt_inj.mp (q.trans ti_0.symm))
  subst hp
  exact ⟨⟨hI, kc_r⟩, t12.trans (jd_2 c (by omega)).symm, hc⟩
theorem f_X9_judge (a1 a2 : Int32) {lg0 : LGt} {it0 : ITt} (hI : I9 lg0 it0) (hVO : VO (vw9 lg0 it0)) : w_X9_judge a1 a2 (fun (v : Int32) (lg' : LGt) (it' : ITt) => (I9 lg' it' ∧ Kd (fun j => 501 ≤ j ∧ j ≤ 512) (fun k => k = 18 ∨ k = 19 ∨ k = 20 ∨ (28 ≤ k ∧ k ≤ 43)) lg0 it0 lg' it') ∧ v.toInt = jdI (vw9 lg0 it0) a1 a2 (it0 518 a1.toNatClampNeg).toInt (it0 519 a1.toNatClampNeg).toInt (f9 lg0 a1.toNatClampNeg)) lg0 it0 := by
  have tm5 : (-5 : Int32).toInt = -5 := by decide
  have t12 : (-12 : Int32).toInt = -12 := by decide
  have t60 : (60 : Int32).toInt = 60 := ti_60
  generalize hV : vw9 lg0 it0 = V at hVO
  have hcl := cnt_le V 20
  generalize hp : (fun (v : Int32) (lg' : LGt) (it' : ITt) => (I9 lg' it' ∧ Kd (fun j => 501 ≤ j ∧ j ≤ 512) (fun k => k = 18 ∨ k = 19 ∨ k = 20 ∨ (28 ≤ k ∧ k ≤ 43)) lg0 it0 lg' it') ∧ v.toInt = jdI V a1 a2 (it0 518 a1.toNatClampNeg).toInt (it0 519 a1.toNatClampNeg).toInt (f9 lg0 a1.toNatClampNeg)) = Pz
  unfold w_X9_judge
  refine ⟨fun c => ?_, fun c => by subst hp; exact ⟨⟨hI, kd_r⟩, ti_m1.trans (jd_1 c).symm⟩⟩
  have hn := rt_n c
  have k1 := cl32 c.1
  have b := i9_f hI (j := 519) (k := a1.toNatClampNeg) rfl
  have hva : vp_in a1 6 := vp_of c.1 (by omega)
  rw [le0, ti_0]
  refine ⟨hva, fun c2 => ⟨_, f_X9_findAll hI (by rw [hV]; exact hVO), ?_⟩, fun c2 => by subst hp; exact ⟨⟨hI, kd_r⟩, t12.trans (jd_2 c (by omega)).symm⟩⟩
  have eJ : jdI V a1 a2 (it0 518 a1.toNatClampNeg).toInt (it0 519 a1.toNatClampNeg).toInt (f9 lg0 a1.toNatClampNeg) = jdF V a2.toInt (it0 519 a1.toNatClampNeg).toInt (f9 lg0 a1.toNatClampNeg) (cnt V 20) 0 := jd_3 c (by omega)
  rw [eJ] at hp
  rw [hV]
  rintro lgA itA ⟨⟨JA, KA0⟩, _, g1, g2, g3, _⟩
  have KA := kdA KA0
  have ez : itA 519 = it0 519 := (KA.1 519 (by decide) (by omega)).2
  have el : lgA 520 = lg0 520 := (KA.1 520 (by decide) (by omega)).1
  have lp : ∀ (n : Nat) (x : Int32) (k : Nat), x.toInt = k → k ≤ cnt V 20 → jdF V a2.toInt (it0 519 a1.toNatClampNeg).toInt (f9 lg0 a1.toNatClampNeg) (cnt V 20) 0 = jdF V a2.toInt (it0 519 a1.toNatClampNeg).toInt (f9 lg0 a1.toNatClampNeg) (cnt V 20 - k) k → cnt V 20 - k < n → w_X9_judge_b27 a1 a2 Pz n x lgA itA := by
    intro n
    induction n with
    | zero => intro x k _ _ _ hn; exact absurd hn (Nat.not_lt_zero _)
    | succ n ih =>
      intro x k hx hk hF hn
      unfold w_X9_judge_b27
      rw [le0, g1, hx, ez, el]
      refine ⟨fun c4 => ?_, fun c4 => ?_⟩
      · subst hp
        exact ⟨⟨JA, KA⟩, by rw [hF, show cnt V 20 - k = 0 by omega]; exact tm5⟩
      have hxk : x.toNatClampNeg = k := by have := cl32 (i := x) (by omega); omega
      have fx : (x + 1).toInt = x.toInt + 1 := ad32 rfl ti_1 (by omega) (by omega)
      have fh : (100 + x).toInt = 100 + x.toInt := ad32 ti_100 rfl (by omega) (by omega)
      have a2l := a2.le_toInt
      have a2u := a2.toInt_lt
      have fz : (a2.toInt64 + x.toInt64).toInt = a2.toInt + x.toInt := by
        rw [Int64.toInt_add, Int32.toInt_toInt64, Int32.toInt_toInt64, bmL (by omega) (by omega)]
      rw [show cnt V 20 - k = (cnt V 20 - (k + 1)) + 1 by omega] at hF
      rw [lt0, ti_0, Int64.lt_iff_toInt_lt, fz, Int32.toInt_toInt64]
      refine ⟨fun c5 => by subst hp; exact ⟨⟨JA, KA⟩, by rw [hF, jd_e (Or.inl c5), fh, hx]⟩, fun c5 => ⟨hva, fun c6 => ?_, fun c6 => by subst hp; exact ⟨⟨JA, KA⟩, by rw [hF, jd_e (Or.inr (by omega)), fh, hx]⟩⟩⟩
      have m1 : (60 * a1).toInt = 60 * a1.toInt := ml32 t60 rfl (by omega) (by omega)
      have m2 : (60 * a1 + a2).toInt = 60 * a1.toInt + a2.toInt := ad32 m1 rfl (by omega) (by omega)
      have m3 : (60 * a1 + a2 + x).toInt = 60 * a1.toInt + a2.toInt + x.toInt := ad32 m2 rfl (by omega) (by omega)
      have ka := cl32 (i := 60 * a1 + a2 + x) (by omega)
      have kn : (60 * a1 + a2 + x).toNatClampNeg = 60 * a1.toNatClampNeg + (a2.toInt.toNat + k) := by omega
      have nn : ¬ (a2.toInt < 0 ∨ (it0 519 a1.toNatClampNeg).toInt ≤ a2.toInt + k) := by omega
      rw [hxk, kn, it64 (g3 k (by omega)).1]
      refine ⟨vp_of (by omega) (by omega), vp_of (by omega) (by omega), fun c7 => ?_, fun c7 => ?_⟩
      · exact ih (x + 1) (k + 1) (by omega) (by omega) (by rw [hF]; exact jd_s nn c7) (by omega)
      · subst hp
        exact ⟨⟨JA, KA⟩, by rw [hF]; exact hx.trans (jd_n nn c7).symm⟩
  exact ⟨_, lp (cnt V 20 + 1) 0 0 ti_0 (Nat.zero_le _) rfl (by omega)⟩
/-- the same judgement -/
theorem judge_x {lg lg1 : LGt} {it it1 : ITt} {V : Rlv} {v v' a i : Int32} (h : RC lg it) (hz : ∀ t, t < 6 → (it 519 t).toInt ≤ 60) (kl : lg1 520 = lg 520) (k8 : it1 518 = it 518) (k9 : it1 519 = it 519) (e1 : v.toInt = jdI V a i (it (474 + 2 * a.toNatClampNeg) 0).toInt (it (474 + 2 * a.toNatClampNeg) 1).toInt (f8 lg a.toNatClampNeg)) (e2 : v'.toInt = jdI V a i (it1 518 a.toNatClampNeg).toInt (it1 519 a.toNatClampNeg).toInt (f9 lg1 a.toNatClampNeg)) : v = v' := by
  apply Int32.toInt_inj.mp
  rw [k8, k9] at e2
  rw [e1, e2]
  by_cases q : 0 ≤ a.toInt ∧ a.toInt ≤ 5
  · have hn := rt_n q
    obtain ⟨h1, h2, _⟩ := h.1 _ hn
    rw [h1, h2]
    by_cases c : 0 < (it 518 a.toNatClampNeg).toInt
    · rw [jd_2 q c, jd_2 q c]
    · rw [jd_3 q c, jd_3 q c]
      refine jd_x (fun k hk => ?_) (hz _ hn) _ _
      have e : f9 lg1 a.toNatClampNeg k = f9 lg a.toNatClampNeg k := by unfold f9; rw [kl]
      rw [e]
      exact h.2.2 _ _ hn hk
  · rw [jd_1 q, jd_1 q]
