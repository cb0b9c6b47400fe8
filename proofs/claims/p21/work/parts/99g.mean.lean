/-! mean, on both sides -/
def msN (V : Rlv) : Nat → Int
  | 0 => 0
  | k + 1 => msN V k + (rM V k).toInt
def mnQ (s n : Int32) : QQ := (s.toInt64 / gca s.toInt64 n.toInt64, n.toInt64 / gca s.toInt64 n.toInt64)
def mnA (V : Rlv) (b : Int32) : Int64 := if rN V = 0 ∨ ¬ (0 ≤ b.toInt ∧ b.toInt ≤ 1) then MNL else half (mnQ (Int32.ofInt (msN V (rN V))) (Int32.ofNat (rN V))) b
theorem ms_b {V : Rlv} (h : VO V) : ∀ k, k ≤ rN V → 0 ≤ msN V k ∧ msN V k ≤ 9 * k
  | 0, _ => by unfold msN; omega
  | k + 1, hk => by
    have a := ms_b h k (by omega)
    have b := h.2.2.1 k (by omega)
    unfold msN
    omega
theorem rem_nn {x y : Int64} (hx : 0 ≤ x.toInt) (hy : 0 < y.toInt) : 0 ≤ (x - x / y * y).toInt := by
  have x2 := x.toInt_lt
  have y2 := y.toInt_lt
  have b1 : 0 ≤ x.toInt / y.toInt := Int.ediv_nonneg hx (by omega)
  have b2 : x.toInt / y.toInt * y.toInt ≤ x.toInt := Int.ediv_mul_le _ (by omega)
  have b3 : 0 ≤ x.toInt / y.toInt * y.toInt := Int.mul_nonneg b1 (by omega)
  have b4 : x.toInt / y.toInt ≤ x.toInt := Int.ediv_le_self _ hx
  have d : (x / y).toInt = x.toInt / y.toInt := by
    rw [Int64.toInt_div, Int.tdiv_eq_ediv_of_nonneg hx, bmL (by omega) (by omega)]
  have m : (x / y * y).toInt = x.toInt / y.toInt * y.toInt := by
    rw [Int64.toInt_mul, d]
    exact bmL (by omega) (by omega)
  rw [Int64.toInt_sub, m, bmL (by omega) (by omega)]
  omega
theorem eu_nn : ∀ (n : Nat) (x y : Int64), 0 ≤ x.toInt → 0 ≤ y.toInt → 0 ≤ (eu n x y).toInt
  | 0, x, _, hx, _ => hx
  | n + 1, x, y, hx, hy => by
    unfold eu
    by_cases c : y = 0
    · rw [if_pos c]; exact hx
    · rw [if_neg c]
      have c2 : ¬ y.toInt = 0 := fun q => c (Int64.toInt_inj.mp (by rw [q]; rfl))
      exact eu_nn n y _ hy (rem_nn hx (by omega))
theorem gca_eu {h w : Int64} (h0 : 0 ≤ h.toInt) (w0 : 0 ≤ w.toInt) : eu (w.toInt.natAbs + 1) h w = gca h w := by
  have z := eu_nn (w.toInt.natAbs + 1) h w h0 w0
  unfold gca
  rw [if_neg]
  rw [Int64.lt_iff_toInt_lt]
  have e0 : (0 : Int64).toInt = 0 := by decide
  omega
theorem mn_st {x y : Int64} {s n : Int32} (hn : 0 < n.toInt) : abF (stF x y 0 s.toInt64 n.toInt64) = some (mnQ s n) := by
  rw [(st_mk (x := x) (y := y) (h := s.toInt64) (w := n.toInt64) (Or.inl rfl) (fun _ => by rw [Int32.toInt_toInt64]; exact hn)).1]
  have e2 : gMk s.toInt64 n.toInt64 0 = (s.toInt64 / gca s.toInt64 n.toInt64, n.toInt64 / gca s.toInt64 n.toInt64, 0) := by
    unfold gMk lowv
    rw [if_pos rfl]
  rw [e2]
  rfl
theorem ofI32 {x : Int32} {z : Int} (h : x.toInt = z) : x = Int32.ofInt z := by rw [← h]; exact (Int32.ofInt_toInt x).symm
theorem ofN32 {x : Int32} {k : Nat} (h : x.toInt = k) (h6 : k ≤ 6) : x = Int32.ofNat k := Int32.toInt_inj.mp (h.trans (show (nI k).toInt = k from nI_toInt (by omega)).symm)
set_option maxRecDepth 100000 in
theorem f_X8_mean (a1 : Int32) {lg0 : LGt} {it0 : ITt} (hI : I8 lg0 it0) (V : Rlv) (hV : RV lg0 it0 2 V) (hVO : VO V) : w_X8_mean a1 (fun (v : Int64) (lg' : LGt) (it' : ITt) => (I8 lg' it' ∧ Kc (fun j => (486 ≤ j ∧ j < 489)) lg0 it0 lg' it') ∧ v = mnA V a1) lg0 it0 := by
  have hN := rN_f hI in_rb_2 hV
  have h6 := hVO.1
  have i0 : it0 2 0 = 0 ↔ (it0 2 0).toInt = 0 := by rw [← ti_0]; exact Int32.toInt_inj.symm
  unfold w_X8_mean
  rw [i0]
  refine ⟨fun c => ⟨⟨hI, kc_r⟩, by unfold mnA; rw [if_pos (Or.inl (by omega))]⟩, fun c => ⟨fun c2 => ?_, fun c2 => ⟨⟨hI, kc_r⟩, by unfold mnA; rw [if_pos (Or.inr c2)]⟩⟩⟩
  have lp : ∀ (n : Nat) (y x : Int32) (k : Nat), x.toInt = k → k ≤ rN V → y.toInt = msN V k → rN V - k < n → w_X8_mean_b31 a1 (fun (v : Int64) (lg' : LGt) (it' : ITt) => (I8 lg' it' ∧ Kc (fun j => (486 ≤ j ∧ j < 489)) lg0 it0 lg' it') ∧ v = mnA V a1) n y x lg0 it0 := by
    intro n
    induction n with
    | zero => intro y x k _ _ _ hn; exact absurd hn (Nat.not_lt_zero _)
    | succ n ih =>
      intro y x k hx hk hy hn
      have mb := ms_b hVO k hk
      unfold w_X8_mean_b31
      rw [le0, hN, hx]
      refine ⟨fun c3 => ?_, fun c3 => ?_⟩
      · obtain rfl : k = rN V := by omega
        intro q7 mq lg8 m8 it9 m9
        have e9 : fv lg8 it9 486 = q7 := by rw [m8, m9]; exact fv_at
        refine ⟨⟨by rw [m9]; exact i8_u hI (ok8_1 oq_486 (fun _ => by rw [mq]; exact stF_01 _ _ _ _ _)), by rw [m8, m9]; exact kc_f (by omega) kc_r⟩, ?_⟩
        unfold mnA
        rw [if_neg (by omega), ← ofI32 hy, ← ofN32 hN h6]
        refine hl_s ?_
        rw [e9, mq]
        exact mn_st (by omega)
      · have hxk : x.toNatClampNeg = k := by have := cl32 (i := x) (by omega); omega
        have eM := rM_f hV (i := k) (by omega)
        have mb2 := hVO.2.2.1 k (by omega)
        have fx : (x + 1).toInt = x.toInt + 1 := ad32 rfl ti_1 (by omega) (by omega)
        rw [hxk, show it0 3 k = rM V k from eM]
        have fy : (y + rM V k).toInt = y.toInt + (rM V k).toInt := ad32 rfl rfl (by omega) (by omega)
        exact ⟨vp_of (by omega) (by omega), ih _ (x + 1) (k + 1) (by omega) (by omega) (by rw [fy, hy]; rfl) (by omega)⟩
  exact ⟨_, lp (rN V + 1) 0 0 0 ti_0 (Nat.zero_le _) ti_0 (by omega)⟩
theorem f_X9_mean (a1 : Int32) {lg0 : LGt} {it0 : ITt} (hI : I9 lg0 it0) (hVO : VO (vw9 lg0 it0)) : w_X9_mean a1 (fun (v : Int64) (lg' : LGt) (it' : ITt) => (I9 lg' it' ∧ Kd (fun j => False) (fun k => False) lg0 it0 lg' it') ∧ v = mnA (vw9 lg0 it0) a1) lg0 it0 := by
  obtain ⟨hN, h6, _⟩ := n9_b hI
  have i0 : it0 489 0 = 0 ↔ (it0 489 0).toInt = 0 := by rw [← ti_0]; exact Int32.toInt_inj.symm
  have wM : ∀ i, i < rN (vw9 lg0 it0) → rM (vw9 lg0 it0) i = it0 490 i := fun i hi => wM9 hi
  generalize hV : vw9 lg0 it0 = V at hN h6 hVO wM
  unfold w_X9_mean
  rw [i0]
  refine ⟨fun c2 => ⟨⟨hI, kd_r⟩, by unfold mnA; rw [if_pos (Or.inr c2)]⟩, fun c2 => ⟨fun c => ?_, fun c => ⟨⟨hI, kd_r⟩, by unfold mnA; rw [if_pos (Or.inl (by omega))]⟩⟩⟩
  have lp : ∀ (n : Nat) (y x : Int32) (k : Nat), x.toInt = k → k ≤ rN V → y.toInt = msN V k → rN V - k < n → w_X9_mean_b22 a1 (fun (v : Int64) (lg' : LGt) (it' : ITt) => (I9 lg' it' ∧ Kd (fun j => False) (fun k => False) lg0 it0 lg' it') ∧ v = mnA V a1) n y x lg0 it0 := by
    intro n
    induction n with
    | zero => intro y x k _ _ _ hn; exact absurd hn (Nat.not_lt_zero _)
    | succ n ih =>
      intro y x k hx hk hy hn
      have mb := ms_b hVO k hk
      unfold w_X9_mean_b22
      rw [le0, hN, hx]
      refine ⟨fun c3 => ?_, fun c3 => ?_⟩
      · obtain rfl : k = rN V := by omega
        have hp : 0 < (it0 489 0).toInt := by omega
        have eI : mnA V a1 = half (mnQ y (it0 489 0)) a1 := by unfold mnA; rw [if_neg (by omega), ← ofI32 hy, ← ofN32 hN h6]
        have ge : eu ((it0 489 0).toInt64.toInt.natAbs + 1) y.toInt64 (it0 489 0).toInt64 = gca y.toInt64 (it0 489 0).toInt64 := gca_eu (by rw [Int32.toInt_toInt64]; omega) (by rw [Int32.toInt_toInt64]; omega)
        have gne : ¬ gca y.toInt64 (it0 489 0).toInt64 = 0 := by
          refine gca_ne (fun q => ?_)
          have q2 := congrArg Int64.toInt q
          rw [Int32.toInt_toInt64] at q2
          have e0 : (0 : Int64).toInt = 0 := by decide
          omega
        have fin : ∀ (s : Int32), s.toInt64 / gca y.toInt64 (it0 489 0).toInt64 = mnA V a1 → w_X9_mean_b57 a1 (fun (v : Int64) (lg' : LGt) (it' : ITt) => (I9 lg' it' ∧ Kd (fun j => False) (fun k => False) lg0 it0 lg' it') ∧ v = mnA V a1) y s lg0 it0 := by
          intro s hs
          unfold w_X9_mean_b57
          refine ⟨_, f_X9_common y.toInt64 (it0 489 0).toInt64 hI, ?_⟩
          rintro v lg' it' ⟨⟨J, K⟩, ev⟩
          rw [ge] at ev
          rw [ev]
          exact ⟨gne, ⟨J, K⟩, hs⟩
        rw [eI] at fin
        rw [eI]
        refine ⟨fun c5 => fin _ ?_, fun c5 => fin _ ?_⟩
        · unfold half mnQ; rw [if_neg c5]
        · unfold half mnQ; rw [if_pos c5]
      · have hxk : x.toNatClampNeg = k := by have := cl32 (i := x) (by omega); omega
        have mb2 := hVO.2.2.1 k (by omega)
        have fx : (x + 1).toInt = x.toInt + 1 := ad32 rfl ti_1 (by omega) (by omega)
        rw [hxk, ← wM k (by omega)]
        have fy : (y + rM V k).toInt = y.toInt + (rM V k).toInt := ad32 rfl rfl (by omega) (by omega)
        exact ⟨vp_of (by omega) (by omega), ih _ (x + 1) (k + 1) (by omega) (by omega) (by rw [fy, hy]; rfl) (by omega)⟩
  exact ⟨_, lp (rN V + 1) 0 0 0 ti_0 (Nat.zero_le _) ti_0 (by omega)⟩
