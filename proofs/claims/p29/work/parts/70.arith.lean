/-! the fractions of both sides take the same steps -/
abbrev QQ : Type := Int64 × Int64
def abF (v : FV) : Option QQ := if v.2.2 = 0 then some (v.1, v.2.1) else none
theorem neg_div1 {b : Int64} (hb : ¬ b = 0) (hm : ¬ b = MNL) : (-1) * b / b = -1 := by
  rw [Int64.neg_mul, Int64.one_mul]
  have h1 := b.le_toInt
  have h2 := b.toInt_lt
  have hz : ¬ b.toInt = 0 := fun q => hb (Int64.toInt_inj.mp q)
  have hmz : ¬ b.toInt = -9223372036854775808 := fun q => hm (Int64.toInt_inj.mp (q.trans (by decide)))
  apply Int64.toInt_inj.mp
  rw [Int64.toInt_div, Int64.toInt_neg, bmL (z := -b.toInt) (by omega) (by omega), Int.neg_tdiv, Int.tdiv_self hz]
  decide
theorem pas_ovm (a b : Int64) : pas a b = ovm a b := by
  unfold pas ovm
  by_cases hb : b = 0
  · rw [if_pos hb, if_pos (Or.inr hb)]
  · by_cases ha : a = 0
    · rw [if_neg hb, if_pos (Or.inl ha), ha]
      by_cases hb1 : b = -1
      · rw [if_pos hb1]; decide
      · rw [if_neg hb1, Int64.zero_mul, Int64.zero_div]; decide
    · have h0 : ¬ (a = 0 ∨ b = 0) := fun q => q.elim ha hb
      by_cases ha1 : a = -1
      · rw [if_neg hb, if_neg h0, if_pos ha1]
        by_cases hb1 : b = -1
        · rw [if_pos hb1, ha1, hb1]
        · rw [if_neg hb1, ha1]
          by_cases hm : b = MNL
          · rw [hm]; decide
          · rw [neg_div1 hb hm]
            simp [hm]
      · rw [if_neg hb, if_neg h0, if_neg ha1]
theorem ovm_int {a b : Int64} (h : ovm a b = false) : (a * b).toInt = a.toInt * b.toInt := by
  have a1 := a.le_toInt
  have a2 := a.toInt_lt
  have b1 := b.le_toInt
  have b2 := b.toInt_lt
  unfold ovm at h
  by_cases h0 : a = 0 ∨ b = 0
  · rcases h0 with rfl | rfl
    · rw [Int64.zero_mul]; simp
    · rw [Int64.mul_zero]; simp
  · rw [if_neg h0] at h
    by_cases ha1 : a = -1
    · rw [if_pos ha1] at h
      have hm : ¬ b = MNL := by simpa using h
      have hmz : ¬ b.toInt = -9223372036854775808 := fun q => hm (Int64.toInt_inj.mp (q.trans (by decide)))
      rw [ha1, Int64.toInt_mul]
      rw [show ((-1 : Int64).toInt) = -1 by decide]
      exact bmL (by omega) (by omega)
    · rw [if_neg ha1] at h
      by_cases hb1 : b = -1
      · rw [if_pos hb1] at h
        have hm : ¬ a = MNL := by simpa using h
        have hmz : ¬ a.toInt = -9223372036854775808 := fun q => hm (Int64.toInt_inj.mp (q.trans (by decide)))
        rw [hb1, Int64.toInt_mul]
        rw [show ((-1 : Int64).toInt) = -1 by decide]
        exact bmL (by omega) (by omega)
      · rw [if_neg hb1] at h
        have hd : a * b / b = a := by simpa using h
        have hz : ¬ b.toInt = 0 := fun q => h0 (Or.inr (Int64.toInt_inj.mp q))
        have hz1 : ¬ b.toInt = -1 := fun q => hb1 (Int64.toInt_inj.mp (q.trans (by decide)))
        have p1 := (a * b).le_toInt
        have p2 := (a * b).toInt_lt
        -- the quotient does not wrap around
        have hq : ((a * b).toInt.tdiv b.toInt).natAbs = (a * b).toInt.natAbs / b.toInt.natAbs := Int.natAbs_tdiv _ _
        have hle : (a * b).toInt.natAbs / b.toInt.natAbs ≤ (a * b).toInt.natAbs := Nat.div_le_self _ _
        have hne : ¬ (a * b).toInt.tdiv b.toInt = 9223372036854775808 := by
          intro q
          rw [q] at hq
          have h3 : (a * b).toInt.natAbs = 9223372036854775808 := by omega
          rw [h3] at hq
          have h4 : b.toInt.natAbs = 1 := by
            have h5 : 1 ≤ b.toInt.natAbs := by omega
            rcases Nat.lt_or_ge 1 b.toInt.natAbs with h6 | h6
            · have := Nat.div_lt_self (n := 9223372036854775808) (by decide) h6
              omega
            · omega
          have h5 : b.toInt = 1 := by omega
          rw [h5, Int.tdiv_one] at q
          omega
        have hda := congrArg Int64.toInt hd
        rw [Int64.toInt_div, bmL (by omega) (by omega)] at hda
        have hr := Int.tmod_def (a * b).toInt b.toInt
        rw [hda] at hr
        have hrl : ((a * b).toInt.tmod b.toInt).natAbs < b.toInt.natAbs := by rw [Int.natAbs_tmod]; exact Nat.mod_lt _ (by omega)
        -- the rest is a multiple of 2 ^ 64
        have hm := Int64.toInt_mul a b
        have hdv : (2 ^ 64 : Int) ∣ (a.toInt * b.toInt) - (a.toInt * b.toInt).bmod (2 ^ 64) := by
          have := Int.dvd_self_sub_bmod (x := a.toInt * b.toInt) (m := 2 ^ 64)
          simpa using this
        rw [← hm] at hdv
        rw [Int.mul_comm b.toInt a.toInt] at hr
        generalize hx : a.toInt * b.toInt = x at hdv hr ⊢
        obtain ⟨c, hc⟩ := hdv
        omega
theorem ovm_pos {a b : Int64} (h : ovm a b = false) (ha : 0 < a.toInt) (hb : 0 < b.toInt) : 0 < (a * b).toInt := by
  rw [ovm_int h]
  exact Int.mul_pos ha hb
theorem mod_half {x y n : Nat} (h0 : 0 < y) (h1 : y < x) (h2 : x < 2 * n) : x % y < n := by
  have e := Nat.mod_lt x h0
  have e2 : x % y = (x - y) % y := Nat.mod_eq_sub_mod (Nat.le_of_lt h1)
  have e3 : (x - y) % y ≤ x - y := Nat.mod_le _ _
  omega
theorem euc_abs : ∀ (k : Nat) (n : Nat) (d r : Int64), n = 2 * k → ¬ d = 0 → r.toInt.natAbs < 2 ^ k → (euc n d r).toInt.natAbs = Nat.gcd d.toInt.natAbs r.toInt.natAbs
  | 0, n, d, r, hn, _, h => by
    subst hn
    have h0 : r.toInt.natAbs = 0 := by
      have : (2 : Nat) ^ 0 = 1 := rfl
      omega
    rw [h0, Nat.gcd_zero_right]
    rfl
  | k + 1, n, d, r, hn, hd, h => by
    obtain ⟨m, rfl⟩ : ∃ m, n = m + 2 := ⟨2 * k, by omega⟩
    have hm : m = 2 * k := by omega
    by_cases hr : r = 0
    · have e : euc (m + 2) d r = d := by rw [euc, if_pos hr]
      rw [e, hr]
      show _ = Nat.gcd _ 0
      rw [Nat.gcd_zero_right]
    · have e : euc (m + 2) d r = euc (m + 1) r (d - d / r * r) := by rw [euc, if_neg hr]
      rw [e]
      have g1 : Nat.gcd d.toInt.natAbs r.toInt.natAbs = Nat.gcd r.toInt.natAbs (d - d / r * r).toInt.natAbs := by
        rw [rem_abs]
        exact (Nat.gcd_comm _ _).trans ((Nat.gcd_rec _ _).trans (Nat.gcd_comm _ _))
      rw [g1]
      by_cases hq : d - d / r * r = 0
      · have e2 : euc (m + 1) r (d - d / r * r) = r := by rw [euc, if_pos hq]
        rw [e2, hq]
        show _ = Nat.gcd _ 0
        rw [Nat.gcd_zero_right]
      · have e2 : euc (m + 1) r (d - d / r * r) = euc m (d - d / r * r) (r - r / (d - d / r * r) * (d - d / r * r)) := by rw [euc, if_neg hq]
        rw [e2]
        have hlt := rem_lt (x := d) hr
        have hp : 2 ^ (k + 1) = 2 * 2 ^ k := by rw [Nat.pow_succ]; omega
        have hb : (r - r / (d - d / r * r) * (d - d / r * r)).toInt.natAbs < 2 ^ k := by
          rw [rem_abs]
          exact mod_half (abs_ne hq) hlt (by omega)
        rw [euc_abs k m _ _ hm hq hb, rem_abs (x := r)]
        exact (Nat.gcd_comm _ _).trans ((Nat.gcd_rec _ _).symm.trans (Nat.gcd_comm _ _))
theorem abs_pos {x : Int64} {g : Nat} (h : x.toInt.natAbs = g) (hg : g < 9223372036854775808) : (if x < 0 then -x else x).toInt = (g : Int) := by
  have h1 := x.le_toInt
  have h2 := x.toInt_lt
  split
  · rename_i c
    rw [Int64.lt_iff_toInt_lt] at c
    have c0 : x.toInt < 0 := c
    rw [Int64.toInt_neg, bmL (by omega) (by omega)]
    omega
  · rename_i c
    rw [Int64.lt_iff_toInt_lt] at c
    have c0 : ¬ x.toInt < 0 := c
    omega
/-- the divisor is the same on both sides -/
theorem sgn_gca {h w : Int64} (hw : 0 < w.toInt) : sgn (euc 200 w (h - h / w * w)) w = gca h w ∧ 0 < (gca h w).toInt ∧ (gca h w).toInt.natAbs ∣ w.toInt.natAbs := by
  have w2 := w.toInt_lt
  have hw0 : ¬ w = 0 := fun q => by rw [q] at hw; exact absurd hw (by decide)
  have hg : Nat.gcd h.toInt.natAbs w.toInt.natAbs ≤ w.toInt.natAbs := Nat.gcd_le_right _ (abs_ne hw0)
  have hgp : 0 < Nat.gcd h.toInt.natAbs w.toInt.natAbs := Nat.gcd_pos_of_pos_right _ (abs_ne hw0)
  have e1 : (euc 200 w (h - h / w * w)).toInt.natAbs = Nat.gcd h.toInt.natAbs w.toInt.natAbs := by
    rw [euc_abs 100 200 _ _ (by decide) hw0 (by
      have p1 := (h - h / w * w).le_toInt
      have p2 := (h - h / w * w).toInt_lt
      have p3 : (9223372036854775808 : Nat) < 2 ^ 100 := by decide
      omega), rem_abs]
    exact (Nat.gcd_comm _ _).trans ((Nat.gcd_rec _ _).symm.trans (Nat.gcd_comm _ _))
  have e2 := eu_abs (w.toInt.natAbs + 1) h w (Nat.lt_succ_self _)
  have s1 : sgn (euc 200 w (h - h / w * w)) w = (if euc 200 w (h - h / w * w) < 0 then -(euc 200 w (h - h / w * w)) else euc 200 w (h - h / w * w)) := by
    unfold sgn
    have nw : ¬ w < 0 := by
      rw [Int64.lt_iff_toInt_lt]
      have : ¬ w.toInt < 0 := by omega
      exact this
    by_cases c : euc 200 w (h - h / w * w) < 0
    · rw [if_neg (fun q => nw (q.mp c)), if_pos c]
    · rw [if_pos ⟨fun q => absurd q c, fun q => absurd q nw⟩, if_neg c]
  have t1 := abs_pos e1 (by omega)
  have t2 : (gca h w).toInt = (Nat.gcd h.toInt.natAbs w.toInt.natAbs : Int) := abs_pos e2 (by omega)
  refine ⟨Int64.toInt_inj.mp ?_, by omega, ?_⟩
  · rw [s1, t1, t2]
  · rw [gca_abs]; exact Nat.gcd_dvd_right _ _
theorem div_pos64 {w g : Int64} (hw : 0 < w.toInt) (hg : 0 < g.toInt) (hd : g.toInt.natAbs ∣ w.toInt.natAbs) : 0 < (w / g).toInt := by
  have w2 := w.toInt_lt
  have h2 : (w.toInt.tdiv g.toInt).natAbs = w.toInt.natAbs / g.toInt.natAbs := Int.natAbs_tdiv _ _
  have h3 : 0 < w.toInt.natAbs / g.toInt.natAbs := Nat.div_pos (Nat.le_of_dvd (by omega) hd) (by omega)
  have h4 : w.toInt.natAbs / g.toInt.natAbs ≤ w.toInt.natAbs := Nat.div_le_self _ _
  have h5 : 0 ≤ w.toInt.tdiv g.toInt := Int.tdiv_nonneg (by omega) (by omega)
  rw [Int64.toInt_div, bmL (by omega) (by omega)]
  omega
def PosF (X : Option QQ) : Prop := ∀ q, X = some q → 0 < q.2.toInt
theorem st_mk {x y h w : Int64} {o : Int32} (ho : o = 0 ∨ o = 1) (hw : o = 0 → 0 < w.toInt) : abF (stF x y o h w) = abF (gMk h w o) ∧ PosF (abF (gMk h w o)) := by
  rcases ho with rfl | rfl
  · have hw1 := hw rfl
    have hw0 : ¬ w = 0 := fun q => by rw [q] at hw1; exact absurd hw1 (by decide)
    obtain ⟨e, g1, g2⟩ := sgn_gca (h := h) hw1
    have hne : ¬ gca h w = -1 := fun q => by rw [q] at g1; exact absurd g1 (by decide)
    have e1 : stF x y 0 h w = (h / gca h w, w / gca h w, 0) := by
      unfold stF ovr
      rw [if_neg (fun q => q.elim (fun z => z rfl) hw0), e, if_neg (fun q => hne q.1)]
    have e2 : gMk h w 0 = (h / gca h w, w / gca h w, 0) := by
      unfold gMk lowv
      rw [if_pos rfl]
    rw [e1, e2]
    refine ⟨rfl, fun q hq => ?_⟩
    unfold abF at hq
    rw [if_pos rfl] at hq
    injection hq with hq
    subst hq
    exact div_pos64 hw1 g1 g2
  · have e1 : stF x y 1 h w = (x, y, 1) := by
      unfold stF
      rw [if_pos (Or.inl (by decide))]
    rw [e1]
    have n1 : abF (x, y, 1) = none := if_neg (show ¬ (1 : Int32) = 0 by decide)
    have n2 : abF (gMk h w 1) = none := if_neg (show ¬ (1 : Int32) = 0 by decide)
    rw [n1, n2]
    exact ⟨rfl, fun q hq => by cases hq⟩
theorem neg_msb (x : Int64) : x < 0 ↔ x.toBitVec.msb = true := by
  rw [Int64.lt_iff_toInt_lt, BitVec.msb_eq_toInt, decide_eq_true_iff]
  exact Iff.rfl
theorem xor_neg (x y : Int64) : (x ^^^ y) < 0 ↔ ¬ (x < 0 ↔ y < 0) := by
  rw [neg_msb, neg_msb, neg_msb, Int64.toBitVec_xor, BitVec.msb_xor]
  cases x.toBitVec.msb <;> cases y.toBitVec.msb <;> simp
theorem and_neg (x y : Int64) : (x &&& y) < 0 ↔ (x < 0 ∧ y < 0) := by
  rw [neg_msb, neg_msb, neg_msb, Int64.toBitVec_and, BitVec.msb_and]
  cases x.toBitVec.msb <;> cases y.toBitVec.msb <;> simp
theorem ovs_x (x y : Int64) : ((x ^^^ (x + y)) &&& (y ^^^ (x + y)) < 0) ↔ ovs x y = true := by
  unfold ovs
  rw [and_neg, xor_neg, xor_neg, decide_eq_true_iff]
  by_cases h1 : x < 0 <;> by_cases h2 : y < 0 <;> by_cases h3 : x + y < 0 <;> simp [h1, h2, h3]
theorem ovd_x (x y : Int64) : ((x ^^^ y) &&& (x ^^^ (x - y)) < 0) ↔ ovd x y = true := by
  unfold ovd
  rw [and_neg, xor_neg, xor_neg, decide_eq_true_iff]
  by_cases h1 : x < 0 <;> by_cases h2 : y < 0 <;> by_cases h3 : x - y < 0 <;> simp [h1, h2, h3]
/-! one pure step each, none: OVER -/
def oT (X Y : Option QQ) : Option QQ := match X, Y with | some x, some y => abF (fTimes (x.1, x.2, 0) (y.1, y.2, 0)) | _, _ => none
def oB (X Y : Option QQ) : Option QQ := match X, Y with | some x, some y => abF (fBy (x.1, x.2, 0) (y.1, y.2, 0)) | _, _ => none
def oP (X Y : Option QQ) : Option QQ := match X, Y with | some x, some y => abF (fPlus (x.1, x.2, 0) (y.1, y.2, 0)) | _, _ => none
def oL (X Y : Option QQ) : Option QQ := match X, Y with | some x, some y => abF (fLess (x.1, x.2, 0) (y.1, y.2, 0)) | _, _ => none
theorem oT_n (X : Option QQ) : oT X none = none := by cases X <;> rfl
theorem oB_n (X : Option QQ) : oB X none = none := by cases X <;> rfl
theorem oP_n (X : Option QQ) : oP X none = none := by cases X <;> rfl
theorem oL_n (X : Option QQ) : oL X none = none := by cases X <;> rfl
theorem oT_0 (X : Option QQ) : oT none X = none := rfl
theorem oB_0 (X : Option QQ) : oB none X = none := rfl
theorem oP_0 (X : Option QQ) : oP none X = none := rfl
theorem oL_0 (X : Option QQ) : oL none X = none := rfl
theorem stF_o {x y h w : Int64} {o : Int32} (ho : ¬ o = 0) : abF (stF x y o h w) = none := by
  unfold stF
  rw [if_pos (Or.inl ho)]
  exact if_neg (show ¬ (1 : Int32) = 0 by decide)
theorem abF_0 {v : FV} (h : v.2.2 = 0) : abF v = some (v.1, v.2.1) := if_pos h
theorem abF_1 {v : FV} (h : ¬ v.2.2 = 0) : abF v = none := if_neg h
theorem ab_t (v w : FV) : abF (fTimes v w) = oT (abF v) (abF w) := by
  obtain ⟨a, b, o⟩ := v
  obtain ⟨c, d, p⟩ := w
  by_cases h1 : o = 0
  · by_cases h2 : p = 0
    · subst h1 h2; rfl
    · rw [abF_1 (v := (c, d, p)) h2, oT_n]
      exact stF_o (by rw [if_neg (fun q => h2 q.2.1)]; decide)
  · rw [abF_1 (v := (a, b, o)) h1, oT_0]
    exact stF_o (by rw [if_neg (fun q => h1 q.1)]; decide)
theorem ab_b (v w : FV) : abF (fBy v w) = oB (abF v) (abF w) := by
  obtain ⟨a, b, o⟩ := v
  obtain ⟨c, d, p⟩ := w
  by_cases h1 : o = 0
  · by_cases h2 : p = 0
    · subst h1 h2; rfl
    · rw [abF_1 (v := (c, d, p)) h2, oB_n]
      exact stF_o (by rw [if_neg (fun q => h2 q.2.1)]; decide)
  · rw [abF_1 (v := (a, b, o)) h1, oB_0]
    exact stF_o (by rw [if_neg (fun q => h1 q.1)]; decide)
theorem ab_p (v w : FV) : abF (fPlus v w) = oP (abF v) (abF w) := by
  obtain ⟨a, b, o⟩ := v
  obtain ⟨c, d, p⟩ := w
  by_cases h1 : o = 0
  · by_cases h2 : p = 0
    · subst h1 h2; rfl
    · rw [abF_1 (v := (c, d, p)) h2, oP_n]
      exact stF_o (by rw [if_neg (fun q => h2 q.2.1)]; decide)
  · rw [abF_1 (v := (a, b, o)) h1, oP_0]
    exact stF_o (by rw [if_neg (fun q => h1 q.1)]; decide)
theorem ab_l (v w : FV) : abF (fLess v w) = oL (abF v) (abF w) := by
  obtain ⟨a, b, o⟩ := v
  obtain ⟨c, d, p⟩ := w
  by_cases h1 : o = 0
  · by_cases h2 : p = 0
    · subst h1 h2; rfl
    · rw [abF_1 (v := (c, d, p)) h2, oL_n]
      exact stF_o (by rw [if_neg (fun q => h2 q.2.1)]; decide)
  · rw [abF_1 (v := (a, b, o)) h1, oL_0]
    exact stF_o (by rw [if_neg (fun q => h1 q.1)]; decide)
/-! the reference's steps are these -/
theorem oro_f {o : Int32} {b : Bool} (h : oro o b = 0) : o = 0 ∧ b = false := by
  unfold oro at h
  cases b
  · exact ⟨by simpa using h, rfl⟩
  · exact absurd (show (1 : Int32) = 0 from h) (by decide)
theorem oro_0 {o : Int32} (h : o = 0) : oro o false = 0 := by rw [h]; rfl
theorem ag_t {a b c d : Int64} (hb : 0 < b.toInt) (hd : 0 < d.toInt) : abF (gTimes a b c d 0) = oT (some (a, b)) (some (c, d)) ∧ PosF (oT (some (a, b)) (some (c, d))) := by
  have h01 : oro (oro 0 (ovm a c)) (ovm b d) = 0 ∨ oro (oro 0 (ovm a c)) (ovm b d) = 1 := oro_01 (oro_01 (Or.inl rfl))
  have e : (if (0 : Int32) = 0 ∧ (0 : Int32) = 0 ∧ pas a c = false ∧ pas b d = false then (0 : Int32) else 1) = oro (oro 0 (ovm a c)) (ovm b d) := by
    rw [pas_ovm, pas_ovm]
    cases ovm a c <;> cases ovm b d <;> rfl
  have h := st_mk (x := a) (y := b) (h := a * c) (w := b * d) h01 (fun q => ovm_pos (oro_f q).2 hb hd)
  have e2 : oT (some (a, b)) (some (c, d)) = abF (stF a b (oro (oro 0 (ovm a c)) (ovm b d)) (a * c) (b * d)) := by
    rw [← e]; rfl
  rw [e2, h.1]
  exact ⟨rfl, h.2⟩
theorem ag_p {a b c d : Int64} (hb : 0 < b.toInt) (hd : 0 < d.toInt) : abF (gPlus a b c d 0) = oP (some (a, b)) (some (c, d)) ∧ PosF (oP (some (a, b)) (some (c, d))) := by
  have h01 : oro (oro (oro (oro 0 (ovm a d)) (ovm c b)) (ovs (a * d) (c * b))) (ovm b d) = 0 ∨ oro (oro (oro (oro 0 (ovm a d)) (ovm c b)) (ovs (a * d) (c * b))) (ovm b d) = 1 := oro_01 (oro_01 (oro_01 (oro_01 (Or.inl rfl))))
  have e : (if (0 : Int32) = 0 ∧ (0 : Int32) = 0 ∧ pas a d = false ∧ pas c b = false ∧ pas b d = false ∧ ¬ ((a * d) ^^^ (a * d + c * b)) &&& ((c * b) ^^^ (a * d + c * b)) < 0 then (0 : Int32) else 1) = oro (oro (oro (oro 0 (ovm a d)) (ovm c b)) (ovs (a * d) (c * b))) (ovm b d) := by
    rw [pas_ovm, pas_ovm, pas_ovm]
    have hx := ovs_x (a * d) (c * b)
    by_cases hs : ovs (a * d) (c * b) = true
    · have hn := hx.mpr hs
      rw [if_neg (fun q => q.2.2.2.2.2 hn), hs]
      cases ovm b d <;> rfl
    · have hn : ¬ ((a * d) ^^^ (a * d + c * b)) &&& ((c * b) ^^^ (a * d + c * b)) < 0 := fun q => hs (hx.mp q)
      have hs2 : ovs (a * d) (c * b) = false := by simpa using hs
      rw [hs2]
      cases hp : ovm a d
      · cases hq : ovm c b
        · cases hr : ovm b d
          · rw [if_pos ⟨rfl, rfl, rfl, rfl, rfl, hn⟩]; rfl
          · rw [if_neg (fun q => absurd q.2.2.2.2.1 (by decide))]; rfl
        · rw [if_neg (fun q => absurd q.2.2.2.1 (by decide))]; cases ovm b d <;> rfl
      · rw [if_neg (fun q => absurd q.2.2.1 (by decide))]; cases ovm b d <;> cases ovm c b <;> rfl
  have h := st_mk (x := a) (y := b) (h := a * d + c * b) (w := b * d) h01 (fun q => ovm_pos (oro_f q).2 hb hd)
  have e2 : oP (some (a, b)) (some (c, d)) = abF (stF a b (oro (oro (oro (oro 0 (ovm a d)) (ovm c b)) (ovs (a * d) (c * b))) (ovm b d)) (a * d + c * b) (b * d)) := by
    rw [← e]; rfl
  rw [e2, h.1]
  exact ⟨rfl, h.2⟩
theorem ag_l {a b c d : Int64} (hb : 0 < b.toInt) (hd : 0 < d.toInt) : abF (gLess a b c d 0) = oL (some (a, b)) (some (c, d)) ∧ PosF (oL (some (a, b)) (some (c, d))) := by
  have h01 : oro (oro (oro (oro 0 (ovm a d)) (ovm c b)) (ovd (a * d) (c * b))) (ovm b d) = 0 ∨ oro (oro (oro (oro 0 (ovm a d)) (ovm c b)) (ovd (a * d) (c * b))) (ovm b d) = 1 := oro_01 (oro_01 (oro_01 (oro_01 (Or.inl rfl))))
  have e : (if (0 : Int32) = 0 ∧ (0 : Int32) = 0 ∧ pas a d = false ∧ pas c b = false ∧ pas b d = false ∧ ¬ ((a * d) ^^^ (c * b)) &&& ((a * d) ^^^ (a * d - c * b)) < 0 then (0 : Int32) else 1) = oro (oro (oro (oro 0 (ovm a d)) (ovm c b)) (ovd (a * d) (c * b))) (ovm b d) := by
    rw [pas_ovm, pas_ovm, pas_ovm]
    have hx := ovd_x (a * d) (c * b)
    by_cases hs : ovd (a * d) (c * b) = true
    · have hn := hx.mpr hs
      rw [if_neg (fun q => q.2.2.2.2.2 hn), hs]
      cases ovm b d <;> rfl
    · have hn : ¬ ((a * d) ^^^ (c * b)) &&& ((a * d) ^^^ (a * d - c * b)) < 0 := fun q => hs (hx.mp q)
      have hs2 : ovd (a * d) (c * b) = false := by simpa using hs
      rw [hs2]
      cases hp : ovm a d
      · cases hq : ovm c b
        · cases hr : ovm b d
          · rw [if_pos ⟨rfl, rfl, rfl, rfl, rfl, hn⟩]; rfl
          · rw [if_neg (fun q => absurd q.2.2.2.2.1 (by decide))]; rfl
        · rw [if_neg (fun q => absurd q.2.2.2.1 (by decide))]; cases ovm b d <;> rfl
      · rw [if_neg (fun q => absurd q.2.2.1 (by decide))]; cases ovm b d <;> cases ovm c b <;> rfl
  have h := st_mk (x := a) (y := b) (h := a * d - c * b) (w := b * d) h01 (fun q => ovm_pos (oro_f q).2 hb hd)
  have e2 : oL (some (a, b)) (some (c, d)) = abF (stF a b (oro (oro (oro (oro 0 (ovm a d)) (ovm c b)) (ovd (a * d) (c * b))) (ovm b d)) (a * d - c * b) (b * d)) := by
    rw [← e]; rfl
  rw [e2, h.1]
  exact ⟨rfl, h.2⟩
theorem ag_b {a b c d : Int64} (hb : 0 < b.toInt) (hc : 0 < c.toInt) : abF (gBy a b c d 0) = oB (some (a, b)) (some (c, d)) ∧ PosF (oB (some (a, b)) (some (c, d))) := by
  have h01 : oro (oro 0 (ovm a d)) (ovm b c) = 0 ∨ oro (oro 0 (ovm a d)) (ovm b c) = 1 := oro_01 (oro_01 (Or.inl rfl))
  have e : (if (0 : Int32) = 0 ∧ (0 : Int32) = 0 ∧ pas a d = false ∧ pas b c = false then (0 : Int32) else 1) = oro (oro 0 (ovm a d)) (ovm b c) := by
    rw [pas_ovm, pas_ovm]
    cases ovm a d <;> cases ovm b c <;> rfl
  have h := st_mk (x := a) (y := b) (h := a * d) (w := b * c) h01 (fun q => ovm_pos (oro_f q).2 hb hc)
  have e2 : oB (some (a, b)) (some (c, d)) = abF (stF a b (oro (oro 0 (ovm a d)) (ovm b c)) (a * d) (b * c)) := by
    rw [← e]; rfl
  have e3 : gBy a b c d 0 = gMk (a * d) (b * c) (oro (oro 0 (ovm a d)) (ovm b c)) := by
    unfold gBy
    rw [if_pos (show 0 ≤ c by rw [Int64.le_iff_toInt_le]; exact Int.le_of_lt hc)]
  rw [e2, e3, h.1]
  exact ⟨rfl, h.2⟩
/-! what the reference holds: no OVER so far -> the value is that; an OVER -> one of these is none -/
def Sv (o : Int32) (a b : Int64) (X : Option QQ) : Prop := o = 0 → X = some (a, b) ∧ 0 < b.toInt
theorem sv_w {o o' : Int32} {a b : Int64} {X : Option QQ} (h : Sv o a b X) (ho : o' = 0 → o = 0) : Sv o' a b X := fun q => h (ho q)
theorem sv_c {o : Int32} {a b : Int64} (h : 0 < b.toInt) : Sv o a b (some (a, b)) := fun _ => ⟨rfl, h⟩
theorem gMk_o (h w : Int64) (o : Int32) : (gMk h w o).2.2 = o := rfl
theorem sv_t {o : Int32} {a b c d : Int64} {X Y : Option QQ} (h1 : Sv o a b X) (h2 : Sv o c d Y) : Sv (gTimes a b c d o).2.2 (gTimes a b c d o).1 (gTimes a b c d o).2.1 (oT X Y) ∧ ((gTimes a b c d o).2.2 = 0 → o = 0) ∧ (¬ (gTimes a b c d o).2.2 = 0 → ¬ o = 0 ∨ oT X Y = none) := by
  have k : (gTimes a b c d o).2.2 = 0 → o = 0 := fun q => (oro_f (oro_f q).1).1
  by_cases ho : o = 0
  · obtain ⟨e1, p1⟩ := h1 ho
    obtain ⟨e2, p2⟩ := h2 ho
    subst ho
    have g := ag_t (a := a) (c := c) p1 p2
    rw [e1, e2]
    refine ⟨fun q => ?_, k, fun q => Or.inr ?_⟩
    · have e := g.1.symm.trans (abF_0 q)
      exact ⟨e, g.2 _ e⟩
    · rw [← g.1]; exact abF_1 q
  · exact ⟨fun q => absurd (k q) ho, k, fun _ => Or.inl ho⟩
theorem sv_p {o : Int32} {a b c d : Int64} {X Y : Option QQ} (h1 : Sv o a b X) (h2 : Sv o c d Y) : Sv (gPlus a b c d o).2.2 (gPlus a b c d o).1 (gPlus a b c d o).2.1 (oP X Y) ∧ ((gPlus a b c d o).2.2 = 0 → o = 0) ∧ (¬ (gPlus a b c d o).2.2 = 0 → ¬ o = 0 ∨ oP X Y = none) := by
  have k : (gPlus a b c d o).2.2 = 0 → o = 0 := fun q => (oro_f (oro_f (oro_f (oro_f q).1).1).1).1
  by_cases ho : o = 0
  · obtain ⟨e1, p1⟩ := h1 ho
    obtain ⟨e2, p2⟩ := h2 ho
    subst ho
    have g := ag_p (a := a) (c := c) p1 p2
    rw [e1, e2]
    refine ⟨fun q => ?_, k, fun q => Or.inr ?_⟩
    · have e := g.1.symm.trans (abF_0 q)
      exact ⟨e, g.2 _ e⟩
    · rw [← g.1]; exact abF_1 q
  · exact ⟨fun q => absurd (k q) ho, k, fun _ => Or.inl ho⟩
theorem sv_l {o : Int32} {a b c d : Int64} {X Y : Option QQ} (h1 : Sv o a b X) (h2 : Sv o c d Y) : Sv (gLess a b c d o).2.2 (gLess a b c d o).1 (gLess a b c d o).2.1 (oL X Y) ∧ ((gLess a b c d o).2.2 = 0 → o = 0) ∧ (¬ (gLess a b c d o).2.2 = 0 → ¬ o = 0 ∨ oL X Y = none) := by
  have k : (gLess a b c d o).2.2 = 0 → o = 0 := fun q => (oro_f (oro_f (oro_f (oro_f q).1).1).1).1
  by_cases ho : o = 0
  · obtain ⟨e1, p1⟩ := h1 ho
    obtain ⟨e2, p2⟩ := h2 ho
    subst ho
    have g := ag_l (a := a) (c := c) p1 p2
    rw [e1, e2]
    refine ⟨fun q => ?_, k, fun q => Or.inr ?_⟩
    · have e := g.1.symm.trans (abF_0 q)
      exact ⟨e, g.2 _ e⟩
    · rw [← g.1]; exact abF_1 q
  · exact ⟨fun q => absurd (k q) ho, k, fun _ => Or.inl ho⟩
theorem gBy_k {o : Int32} {a b c d : Int64} (q : (gBy a b c d o).2.2 = 0) : o = 0 := by
  unfold gBy at q
  split at q
  · exact (oro_f (oro_f q).1).1
  · exact (oro_f (oro_f (oro_f (oro_f q).1).1).1).1
theorem sv_b {o : Int32} {a b c d : Int64} {X Y : Option QQ} (h1 : Sv o a b X) (h2 : Sv o c d Y) (hc : o = 0 → 0 < c.toInt) : Sv (gBy a b c d o).2.2 (gBy a b c d o).1 (gBy a b c d o).2.1 (oB X Y) ∧ ((gBy a b c d o).2.2 = 0 → o = 0) ∧ (¬ (gBy a b c d o).2.2 = 0 → ¬ o = 0 ∨ oB X Y = none) := by
  have k : (gBy a b c d o).2.2 = 0 → o = 0 := gBy_k
  by_cases ho : o = 0
  · obtain ⟨e1, p1⟩ := h1 ho
    obtain ⟨e2, p2⟩ := h2 ho
    have hc0 := hc ho
    subst ho
    have g := ag_b (a := a) (d := d) p1 hc0
    rw [e1, e2]
    refine ⟨fun q => ?_, k, fun q => Or.inr ?_⟩
    · have e := g.1.symm.trans (abF_0 q)
      exact ⟨e, g.2 _ e⟩
    · rw [← g.1]; exact abF_1 q
  · exact ⟨fun q => absurd (k q) ho, k, fun _ => Or.inl ho⟩
