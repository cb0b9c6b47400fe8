/-! odds and mean, on both sides -/
def odQ (c : Int32) : QQ := (c.toInt64 / eu 6 c.toInt64 5, 5 / eu 6 c.toInt64 5)
theorem rat5 {x y : Int64} {q : Int32} (h : 0 ≤ q.toInt ∧ q.toInt ≤ 5) : abF (stF x y 0 q.toInt64 5) = some (odQ q) ∧ ¬ eu 6 q.toInt64 5 = 0 := by
  have e : stF x y 0 q.toInt64 5 = (q.toInt64 / sgn (euc 200 5 (q.toInt64 - q.toInt64 / 5 * 5)) 5, 5 / sgn (euc 200 5 (q.toInt64 - q.toInt64 / 5 * 5)) 5, ovr (sgn (euc 200 5 (q.toInt64 - q.toInt64 / 5 * 5)) 5) q.toInt64 5) := by
    unfold stF
    exact if_neg (by decide)
  rw [e]
  have hq : q = 0 ∨ q = 1 ∨ q = 2 ∨ q = 3 ∨ q = 4 ∨ q = 5 := by
    rcases (show q.toInt = 0 ∨ q.toInt = 1 ∨ q.toInt = 2 ∨ q.toInt = 3 ∨ q.toInt = 4 ∨ q.toInt = 5 by omega) with h | h | h | h | h | h
    · exact Or.inl (Int32.toInt_inj.mp (h.trans ti_0.symm))
    · exact Or.inr (Or.inl (Int32.toInt_inj.mp (h.trans ti_1.symm)))
    · exact Or.inr (Or.inr (Or.inl (Int32.toInt_inj.mp (h.trans ti_2.symm))))
    · exact Or.inr (Or.inr (Or.inr (Or.inl (Int32.toInt_inj.mp (h.trans ti_3.symm)))))
    · exact Or.inr (Or.inr (Or.inr (Or.inr (Or.inl (Int32.toInt_inj.mp (h.trans ti_4.symm))))))
    · exact Or.inr (Or.inr (Or.inr (Or.inr (Or.inr (Int32.toInt_inj.mp (h.trans ti_5.symm))))))
  rcases hq with rfl | rfl | rfl | rfl | rfl | rfl <;> decide +kernel
noncomputable def odI (V : Rlv) (n b : Int32) : Int64 := if ¬ (0 ≤ n.toInt ∧ n.toInt ≤ 20) ∨ ¬ (0 ≤ b.toInt ∧ b.toInt ≤ 1) then MNL else half (odQ (Int32.ofNat (odN V n 5))) b
theorem oN5 {k : Nat} (h : k ≤ 5) : (Int32.ofNat k).toInt = k := by
  show (nI k).toInt = k
  exact nI_toInt (by omega)
theorem oN_of {x : Int32} {k : Nat} (hx : x.toInt = k) (hk : k ≤ 5) : x = Int32.ofNat k := Int32.toInt_inj.mp (hx.trans (oN5 hk).symm)
set_option maxRecDepth 100000 in
theorem f_X8_odds (a1 a2 : Int32) {lg0 : LGt} {it0 : ITt} (hI : I8 lg0 it0) (V : Rlv) (hV : RV lg0 it0 2 V) (hVO : VO V) (hc : CI lg0 it0) : w_X8_odds a1 a2 (fun (v : Int64) (lg' : LGt) (it' : ITt) => (I8 lg' it' ∧ KC2 V (fun j => (55 ≤ j ∧ j < 450) ∨ (450 ≤ j ∧ j < 467) ∨ (486 ≤ j ∧ j < 489)) lg0 it0 lg' it') ∧ v = odI V a1 a2) lg0 it0 := by
  generalize hp : (fun (v : Int64) (lg' : LGt) (it' : ITt) => (I8 lg' it' ∧ KC2 V (fun j => (55 ≤ j ∧ j < 450) ∨ (450 ≤ j ∧ j < 467) ∨ (486 ≤ j ∧ j < 489)) lg0 it0 lg' it') ∧ v = odI V a1 a2) = Pz
  have leaf : ∀ (x : Int64) (lg : LGt) (it : ITt), I8 lg it → KC2 V (fun j => (55 ≤ j ∧ j < 450) ∨ (450 ≤ j ∧ j < 467) ∨ (486 ≤ j ∧ j < 489)) lg0 it0 lg it → x = odI V a1 a2 → Pz x lg it := by
    intro x lg it J K e; subst hp; exact ⟨⟨J, K⟩, e⟩
  have K0 : KC2 V (fun j => (55 ≤ j ∧ j < 450) ∨ (450 ≤ j ∧ j < 467) ∨ (486 ≤ j ∧ j < 489)) lg0 it0 lg0 it0 := ⟨kc_r, hc, hV⟩
  unfold w_X8_odds
  rw [lt0, lt0, ti_0, ti_20]
  refine ⟨fun c => leaf _ _ _ hI K0 (by unfold odI; rw [if_pos (Or.inl (by omega))]), fun c => ⟨fun c2 => leaf _ _ _ hI K0 (by unfold odI; rw [if_pos (Or.inl (by omega))]), fun c2 => ⟨fun c3 => ?_, fun c3 => leaf _ _ _ hI K0 (by unfold odI; rw [if_pos (Or.inr c3)])⟩⟩⟩
  have k1 := cl32 (i := a1) (by omega)
  have lp : ∀ (n : Nat) (y x : Int32) (lg : LGt) (it : ITt) (k : Nat), I8 lg it → KC2 V (fun j => (55 ≤ j ∧ j < 450) ∨ (450 ≤ j ∧ j < 467) ∨ (486 ≤ j ∧ j < 489)) lg0 it0 lg it → x.toInt = k → k ≤ 5 → y.toInt = (odN V a1 k : Int) → 5 - k < n → w_X8_odds_b26 a1 a2 Pz n y x lg it := by
    intro n
    induction n with
    | zero => intro y x lg it k _ _ _ _ _ hn; exact absurd hn (Nat.not_lt_zero _)
    | succ n ih =>
      intro y x lg it k hJ hK hx hk hy hn
      have hol := odN_le V a1 k
      have fx : (x + 1).toInt = x.toInt + 1 := ad32 rfl ti_1 (by omega) (by omega)
      have fy : (y + 1).toInt = y.toInt + 1 := ad32 rfl ti_1 (by omega) (by omega)
      unfold w_X8_odds_b26
      rw [lt0, ti_4]
      refine ⟨fun c4 => ?_, fun c4 => ⟨_, f_X3_become in_rb_450 in_rb_2 hJ (by decide), ?_⟩⟩
      · obtain rfl : k = 5 := by omega
        intro q9 mq lg10 m10 it11 m11
        have e9 : fv lg10 it11 486 = q9 := by rw [m10, m11]; exact fv_at
        have ey : y = Int32.ofNat (odN V a1 5) := oN_of hy hol
        refine leaf _ _ _ (by rw [m11]; exact i8_u hJ (ok8_1 oq_486 (fun _ => by rw [mq]; exact stF_01 _ _ _ _ _))) (by rw [m10, m11]; exact k2_f (by omega) (by omega) hK) ?_
        unfold odI
        rw [if_neg (by omega)]
        refine hl_s ?_
        rw [e9, mq, ← ey]
        exact (rat5 (by omega)).1
      · rintro lgS itS ⟨⟨JS, KS0⟩, eS⟩
        obtain ⟨KS, RS, R2S, CS⟩ := sup hK.2.2 hK.2.1 KS0 eS
        have K2 := k2_t hK KS (fun j hj => by omega) (fun j hj => by omega)
        intro it20 m20
        have J20 : I8 lgS it20 := by rw [m20]; exact i8_u JS (ok8_3 (obr in_rb_450) (fun q => absurd q (by decide)))
        have R20 : RV lgS it20 450 (setE V x) := by rw [m20]; exact rv_setE RS
        have K20 : KC2 V (fun j => (55 ≤ j ∧ j < 450) ∨ (450 ≤ j ∧ j < 467) ∨ (486 ≤ j ∧ j < 489)) lg0 it0 lgS it20 := by rw [m20]; exact k2_u (by omega) (by omega) K2
        refine ⟨_, w450 a1 J20 _ R20 (vo_setE hVO (by omega)) (by omega) K20.2.1, ?_⟩
        rintro lg' it' ⟨⟨J, K⟩, s, C⟩
        have K3 := k2_w K20 K C (fun j hj => by omega)
        have ex : x = Int32.ofNat k := oN_of hx hk
        have en : odN V a1 (k + 1) = odN V a1 k + if cnt (setE V (Int32.ofNat k)) a1.toNatClampNeg < a1.toNatClampNeg then 0 else 1 := rfl
        rw [lt0, s.1, ex]
        refine ⟨fun c5 => ?_, fun c5 => ?_⟩
        · rw [← ex]
          exact ih y (x + 1) lg' it' (k + 1) J K3 (by omega) (by omega) (by rw [en, if_pos (by omega)]; exact hy) (by omega)
        · rw [← ex]
          exact ih (y + 1) (x + 1) lg' it' (k + 1) J K3 (by omega) (by omega) (by rw [en, if_neg (by omega), fy]; omega) (by omega)
  exact ⟨_, lp 6 0 0 lg0 it0 0 hI K0 ti_0 (by omega) ti_0 (by omega)⟩
/-! the second side -/
theorem f_X9_common (a0 a1 : Int64) {lg0 : LGt} {it0 : ITt} (hI : I9 lg0 it0) : w_X9_common a0 a1 (fun (v : Int64) (lg' : LGt) (it' : ITt) => (I9 lg' it' ∧ Kd (fun j => False) (fun k => False) lg0 it0 lg' it') ∧ v = eu (a1.toInt.natAbs + 1) a0 a1) lg0 it0 := by
  generalize hv : eu (a1.toInt.natAbs + 1) a0 a1 = V
  have lp : ∀ (n : Nat) (x y : Int64), y.toInt.natAbs < n → eu n x y = V → w_X9_common_b6 a0 a1 (fun (v : Int64) (lg' : LGt) (it' : ITt) => (I9 lg' it' ∧ Kd (fun j => False) (fun k => False) lg0 it0 lg' it') ∧ v = V) n x y lg0 it0 := by
    intro n
    induction n with
    | zero => exact fun _ _ h _ => absurd h (Nat.not_lt_zero _)
    | succ n ih =>
      intro x y hn h
      unfold w_X9_common_b6
      unfold eu at h
      refine ⟨fun cy => ?_, fun cy => ⟨cy, ih y _ (by have := rem_lt (x := x) cy; omega) (by rw [if_neg cy] at h; exact h)⟩⟩
      rw [if_pos cy] at h
      exact ⟨⟨hI, kd_r⟩, h⟩
  unfold w_X9_common
  exact ⟨_, lp (a1.toInt.natAbs + 1) a0 a1 (Nat.lt_succ_self _) hv⟩
theorem vm_E {lg : LGt} {it it' : ITt} {V : Rlv} {q : Int32} (h : vm9 lg it = V) (m : it' = u2 it 489 30 q) : vm9 lg it' = setE V q := by
  subst h
  have e0 : it' 489 0 = it 489 0 := by rw [m]; exact u2_ne (by decide)
  have e1 : it' 489 30 = q := by rw [m]; exact u2_eq
  have e2 : it' 489 31 = it 489 31 := by rw [m]; exact u2_ne (by decide)
  have e3 : it' 489 32 = it 489 32 := by rw [m]; exact u2_ne (by decide)
  have e4 : it' 501 = it 501 := by rw [m]; exact u2_row (by decide)
  unfold vm9 setE
  rw [e0, e1, e2, e3, e4]
theorem f_X9_odds (a1 a2 : Int32) {lg0 : LGt} {it0 : ITt} (hI : I9 lg0 it0) (hVO : VO (vw9 lg0 it0)) : w_X9_odds a1 a2 (fun (v : Int64) (lg' : LGt) (it' : ITt) => (I9 lg' it' ∧ Kd (fun j => 501 ≤ j ∧ j ≤ 512) (fun k => k = 18 ∨ k = 19 ∨ k = 20 ∨ (28 ≤ k ∧ k ≤ 43)) lg0 it0 lg' it') ∧ v = odI (vw9 lg0 it0) a1 a2) lg0 it0 := by
  generalize hV : vw9 lg0 it0 = V at hVO
  generalize hp : (fun (v : Int64) (lg' : LGt) (it' : ITt) => (I9 lg' it' ∧ Kd (fun j => 501 ≤ j ∧ j ≤ 512) (fun k => k = 18 ∨ k = 19 ∨ k = 20 ∨ (28 ≤ k ∧ k ≤ 43)) lg0 it0 lg' it') ∧ v = odI V a1 a2) = Pz
  have leaf : ∀ (x : Int64) (lg : LGt) (it : ITt), I9 lg it → Kd (fun j => 501 ≤ j ∧ j ≤ 512) (fun k => k = 18 ∨ k = 19 ∨ k = 20 ∨ (28 ≤ k ∧ k ≤ 43)) lg0 it0 lg it → x = odI V a1 a2 → Pz x lg it := by
    intro x lg it J K e; subst hp; exact ⟨⟨J, K⟩, e⟩
  unfold w_X9_odds
  rw [Int32.toInt_toInt64, tl_0, tl_20]
  refine ⟨fun c => leaf _ _ _ hI kd_r (by unfold odI; rw [if_pos (Or.inl c)]), fun c => ⟨fun c3 => ?_, fun c3 => leaf _ _ _ hI kd_r (by unfold odI; rw [if_pos (Or.inr c3)])⟩⟩
  have k1 := cl32 c.1
  have lp : ∀ (n : Nat) (y x : Int32) (lg : LGt) (it : ITt) (k : Nat), I9 lg it → Kd (fun j => 501 ≤ j ∧ j ≤ 512) (fun k => k = 18 ∨ k = 19 ∨ k = 20 ∨ (28 ≤ k ∧ k ≤ 43)) lg0 it0 lg it → x.toInt = k → k ≤ 5 → y.toInt = (odN V a1 k : Int) → 5 - k < n → w_X9_odds_b28 a1 a2 Pz n y x lg it := by
    intro n
    induction n with
    | zero => intro y x lg it k _ _ _ _ _ hn; exact absurd hn (Nat.not_lt_zero _)
    | succ n ih =>
      intro y x lg it k hJ hK hx hk hy hn
      have hol := odN_le V a1 k
      have fx : (x + 1).toInt = x.toInt + 1 := ad32 rfl ti_1 (by omega) (by omega)
      have fy : (y + 1).toInt = y.toInt + 1 := ad32 rfl ti_1 (by omega) (by omega)
      have fy0 : (y + 0).toInt = y.toInt + 0 := ad32 rfl ti_0 (by omega) (by omega)
      have hW : vw9 lg it = V := by rw [wAll hK]; exact hV
      unfold w_X9_odds_b28
      rw [lt0, ti_4]
      refine ⟨fun c4 => ?_, fun c4 => ⟨_, f_X9_minds hJ, ?_⟩⟩
      · obtain rfl : k = 5 := by omega
        have ey : y = Int32.ofNat (odN V a1 5) := oN_of hy hol
        have r5 := rat5 (x := 0) (y := 1) (q := y) (by omega)
        have e5 : (5 : Int64).toInt.natAbs + 1 = 6 := by decide
        have end5 : ∀ (s : Int64), s / eu 6 y.toInt64 5 = odI V a1 a2 → w_X9_odds_b84 a1 a2 Pz y s lg it := by
          intro s hs
          unfold w_X9_odds_b84
          refine ⟨_, f_X9_common y.toInt64 5 hJ, ?_⟩
          rintro v lg' it' ⟨⟨J, K⟩, ev⟩
          rw [e5] at ev
          rw [ev]
          exact ⟨r5.2, leaf _ _ _ J (kd_t hK K (fun j hj => hj.elim) (fun k hk => hk.elim)) hs⟩
        have eI : odI V a1 a2 = half (odQ y) a2 := by unfold odI; rw [if_neg (by omega), ey]
        rw [eI] at end5
        refine ⟨fun c5 => end5 _ ?_, fun c5 => end5 _ ?_⟩
        · unfold half odQ; rw [if_neg c5]
        · unfold half odQ; rw [if_pos c5]
      · rintro lgM itM ⟨⟨JM, KM⟩, eM⟩
        rw [hW] at eM
        intro it16 m16
        have J16 : I9 lgM it16 := by rw [m16]; exact i9_u JM (ok9_n rfl) (by decide) (fun _ => by decide)
        have V16 : vm9 lgM it16 = setE V x := vm_E eM m16
        have K16 : Kd (fun j => 501 ≤ j ∧ j ≤ 512) (fun k => k = 18 ∨ k = 19 ∨ k = 20 ∨ (28 ≤ k ∧ k ≤ 43)) lg0 it0 lgM it16 := by rw [m16]; exact kd_uf (by omega) (kd_t hK KM (fun j hj => by omega) (fun k hk => by omega))
        refine ⟨_, f_X9_goesOn (20 : Int32) J16 (by rw [V16]; exact vo_setE hVO (by omega)) (by rw [ti_20]; decide), ?_⟩
        rw [V16, show (20 : Int32).toNatClampNeg = 20 by decide]
        rintro lg' it' ⟨⟨J, K⟩, _, g1, _⟩
        have ex : x = Int32.ofNat k := oN_of hx hk
        have en : odN V a1 (k + 1) = odN V a1 k + if cnt (setE V (Int32.ofNat k)) a1.toNatClampNeg < a1.toNatClampNeg then 0 else 1 := rfl
        have em : cnt (setE V x) a1.toNatClampNeg = min a1.toNatClampNeg (cnt (setE V x) 20) := cnt_mn (by omega)
        have K3 : Kd (fun j => 501 ≤ j ∧ j ≤ 512) (fun k => k = 18 ∨ k = 19 ∨ k = 20 ∨ (28 ≤ k ∧ k ≤ 43)) lg0 it0 lg' it' := kd_t K16 K (fun j hj => by omega) (fun k hk => by omega)
        rw [← ex] at en
        rw [lt0, g1]
        refine ⟨fun c5 => ?_, fun c5 => ?_⟩
        · exact ih (y + 0) (x + 1) lg' it' (k + 1) J K3 (by omega) (by omega) (by rw [en, if_pos (by omega), fy0]; omega) (by omega)
        · exact ih (y + 1) (x + 1) lg' it' (k + 1) J K3 (by omega) (by omega) (by rw [en, if_neg (by omega), fy]; omega) (by omega)
  exact ⟨_, lp 6 0 0 lg0 it0 0 hI kd_r ti_0 (by omega) ti_0 (by omega)⟩
