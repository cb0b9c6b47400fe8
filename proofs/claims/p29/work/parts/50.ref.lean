/-! what is true of the reference at any time -/
def bd9 (j k : Nat) : Option (Int × Int) := match j with
  | 489 => (match k with | 0 => some (0, 6) | 9 => some (0, 5) | 10 => some (0, 8) | 11 => some (0, 8) | 20 => some (0, 1) | 42 => some (0, 20) | 50 => some (0, 100) | 51 => some (0, 100) | 61 => some (0, 1) | _ => none)
  | 495 => some (0, 19)
  | 498 => some (0, 9)
  | 499 => some (0, 19)
  | 500 => some (0, 9)
  | 519 => some (0, 60)
  | _ => none
def ok9 (j k : Nat) (v : Int32) : Prop := match bd9 j k with | some q => q.1 ≤ v.toInt ∧ v.toInt ≤ q.2 | none => True
def bl9 (k : Nat) : Option (Int × Int) := if k = 0 then some (0, 6) else if k = 4 then some (0, 5) else if k = 5 ∨ k = 6 then some (0, 8) else if 37 ≤ k ∧ k < 42 then some (0, 19) else if 55 ≤ k ∧ k < 63 then some (0, 9) else if 63 ≤ k ∧ k < 71 then some (0, 199) else none
def lk9 (k : Nat) (v : Int64) : Prop := match bl9 k with | some q => q.1 ≤ v.toInt ∧ v.toInt ≤ q.2 | none => True
def L19 (lg : LGt) (it : ITt) : Prop := ∀ i : Nat, i < 6 → (i : Int) < (it 489 0).toInt → (¬ lg 492 i = 0 ∧ ¬ lg 494 i = 0) ∧ 1 ≤ (it 490 i).toInt ∧ (it 490 i).toInt ≤ 9
def L29 (lg : LGt) : Prop := ∀ i : Nat, i < 6 → (i : Int) < (lg 522 0).toInt → (¬ lg 522 (19 + i) = 0 ∧ ¬ lg 522 (31 + i) = 0) ∧ 1 ≤ (lg 522 (7 + i)).toInt ∧ (lg 522 (7 + i)).toInt ≤ 9
def I9 (lg : LGt) (it : ITt) : Prop := (∀ j k, ok9 j k (it j k)) ∧ (∀ k, lk9 k (lg 522 k)) ∧ L19 lg it ∧ L29 lg
def T9 (lg : LGt) (it : ITt) : Prop := ∀ i : Nat, i < 6 → (i : Int) < (it 489 0).toInt → (¬ lg 503 i = 0 ∧ ¬ lg 505 i = 0) ∧ 1 ≤ (it 501 i).toInt ∧ (it 501 i).toInt ≤ 9
def N9 (lg : LGt) (it : ITt) : Prop := ∀ i : Nat, i < 6 → (i : Int) < (it 489 0).toInt → ¬ lg 507 i = 0
def B9 (lg : LGt) (it : ITt) : Prop := ∀ s : Nat, s < 20 → (s : Int) < (it 489 42).toInt → ¬ lg 510 s = 0 ∧ ∀ i : Nat, i < 6 → (i : Int) < (it 489 0).toInt → ¬ lg 512 (12 * s + i) = 0 ∧ ¬ lg 512 (12 * s + 6 + i) = 0
theorem L19_c {lg lg' : LGt} {it it' : ITt} (h : L19 lg it) (a : lg' 492 = lg 492) (b : lg' 494 = lg 494) (c : it' 490 = it 490) (d : it' 489 0 = it 489 0) : L19 lg' it' := by
  intro i h1 h2
  rw [a, b, c]
  rw [d] at h2
  exact h i h1 h2
theorem T9_c {lg lg' : LGt} {it it' : ITt} (h : T9 lg it) (a : lg' 503 = lg 503) (b : lg' 505 = lg 505) (c : it' 501 = it 501) (d : it' 489 0 = it 489 0) : T9 lg' it' := by
  intro i h1 h2
  rw [a, b, c]
  rw [d] at h2
  exact h i h1 h2
theorem N9_c {lg lg' : LGt} {it it' : ITt} (h : N9 lg it) (a : lg' 507 = lg 507) (d : it' 489 0 = it 489 0) : N9 lg' it' := by
  intro i h1 h2
  rw [a]
  rw [d] at h2
  exact h i h1 h2
theorem B9_c {lg lg' : LGt} {it it' : ITt} (h : B9 lg it) (a : lg' 510 = lg 510) (b : lg' 512 = lg 512) (d : it' 489 0 = it 489 0) (e : it' 489 42 = it 489 42) : B9 lg' it' := by
  intro s h1 h2
  rw [e] at h2
  rw [a, b, d]
  exact h s h1 h2
theorem ok9_b {j k : Nat} {v : Int32} {a b : Int} (e : bd9 j k = some (a, b)) (h : a ≤ v.toInt ∧ v.toInt ≤ b) : ok9 j k v := by unfold ok9; rw [e]; exact h
theorem ok9_n {j k : Nat} {v : Int32} (e : bd9 j k = none) : ok9 j k v := by unfold ok9; rw [e]; exact trivial
theorem i9_f {lg : LGt} {it : ITt} (h : I9 lg it) {j k : Nat} {a b : Int} (e : bd9 j k = some (a, b)) : a ≤ (it j k).toInt ∧ (it j k).toInt ≤ b := by have := h.1 j k; unfold ok9 at this; rw [e] at this; exact this
theorem i9_k {lg : LGt} {it : ITt} (h : I9 lg it) {k : Nat} {a b : Int} (e : bl9 k = some (a, b)) : a ≤ (lg 522 k).toInt ∧ (lg 522 k).toInt ≤ b := by have := h.2.1 k; unfold lk9 at this; rw [e] at this; exact this
theorem bit9 {v : Int32} (h : 0 ≤ v.toInt ∧ v.toInt ≤ 1) : v = 0 ∨ v = 1 := by
  rcases (show v.toInt = 0 ∨ v.toInt = 1 by omega) with q | q
  · exact Or.inl (Int32.toInt_inj.mp q)
  · exact Or.inr (Int32.toInt_inj.mp q)
theorem i9_o {lg : LGt} {it : ITt} (h : I9 lg it) : o01 it := bit9 (i9_f h (j := 489) (k := 20) rfl)
theorem i9_u {lg : LGt} {it : ITt} {j k : Nat} {v : Int32} (h : I9 lg it) (hv : ok9 j k v) (hj : j ≠ 490) (hn : j = 489 → k ≠ 0) : I9 lg (u2 it j k v) := by
  refine ⟨fun a b => ?_, h.2.1, L19_c h.2.2.1 rfl rfl (u2_row (fun q => hj q.symm)) ?_, h.2.2.2⟩
  · unfold u2
    split
    · rename_i e; rw [e.1, e.2]; exact hv
    · exact h.1 a b
  · unfold u2
    rw [if_neg (fun q => hn q.1.symm q.2.symm)]
theorem i9_l {lg : LGt} {it : ITt} {j k : Nat} {v : Int64} (h : I9 lg it) (h1 : 492 ≠ j) (h2 : 494 ≠ j) (h3 : 522 ≠ j) : I9 (u2 lg j k v) it := by
  refine ⟨h.1, fun b => ?_, L19_c h.2.2.1 (u2_row h1) (u2_row h2) rfl rfl, ?_⟩
  · rw [u2_row h3]; exact h.2.1 b
  · intro i a b
    rw [u2_row h3] at b ⊢
    exact h.2.2.2 i a b
theorem i9_d {lg : LGt} {it : ITt} {j k : Nat} {v : Int64} (h : I9 lg it) (h1 : j = 492 ∨ j = 494) (hv : ¬ v = 0) : I9 (u2 lg j k v) it := by
  have h3 : 522 ≠ j := by omega
  refine ⟨h.1, fun b => ?_, fun i a b => ?_, ?_⟩
  · rw [u2_row h3]; exact h.2.1 b
  · obtain ⟨⟨p, q⟩, r⟩ := h.2.2.1 i a b
    refine ⟨⟨?_, ?_⟩, r⟩
    · unfold u2; split; exact hv; exact p
    · unfold u2; split; exact hv; exact q
  · intro i a b
    rw [u2_row h3] at b ⊢
    exact h.2.2.2 i a b
theorem i9_m {lg : LGt} {it : ITt} {k : Nat} {v : Int32} (h : I9 lg it) (hv : 1 ≤ v.toInt ∧ v.toInt ≤ 9) : I9 lg (u2 it 490 k v) := by
  refine ⟨fun a b => ?_, h.2.1, fun i a b => ?_, h.2.2.2⟩
  · unfold u2
    split
    · rename_i e; rw [e.1]; exact ok9_n rfl
    · exact h.1 a b
  · have e : u2 it 490 k v 489 0 = it 489 0 := congrFun (u2_row (by decide)) 0
    rw [e] at b
    obtain ⟨p, r⟩ := h.2.2.1 i a b
    refine ⟨p, ?_⟩
    unfold u2
    split
    · exact hv
    · exact r
/-- all but the rows of S, and in row 489 all but the fields of F, are as they were -/
def Kd (S F : Nat → Prop) (lg : LGt) (it : ITt) (lg' : LGt) (it' : ITt) : Prop := (∀ j, j ≠ 489 → ¬ S j → lg' j = lg j ∧ it' j = it j) ∧ ∀ k, ¬ F k → lg' 489 k = lg 489 k ∧ it' 489 k = it 489 k
theorem kd_r {S F : Nat → Prop} {lg : LGt} {it : ITt} : Kd S F lg it lg it := ⟨fun _ _ _ => ⟨rfl, rfl⟩, fun _ _ => ⟨rfl, rfl⟩⟩
theorem kd_t {S F S' F' : Nat → Prop} {lg lg' lg2 : LGt} {it it' it2 : ITt} (h : Kd S F lg it lg' it') (h2 : Kd S' F' lg' it' lg2 it2) (hs : ∀ j, S' j → S j) (hf : ∀ k, F' k → F k) : Kd S F lg it lg2 it2 :=
  ⟨fun j hj n => ⟨((h2.1 j hj fun q => n (hs j q)).1).trans (h.1 j hj n).1, ((h2.1 j hj fun q => n (hs j q)).2).trans (h.1 j hj n).2⟩, fun k n => ⟨((h2.2 k fun q => n (hf k q)).1).trans (h.2 k n).1, ((h2.2 k fun q => n (hf k q)).2).trans (h.2 k n).2⟩⟩
theorem kd_ur {S F : Nat → Prop} {lg lg' : LGt} {it it' : ITt} {j k : Nat} {v : Int32} (hj : 489 ≠ j) (hs : S j) (h : Kd S F lg it lg' it') : Kd S F lg it lg' (u2 it' j k v) :=
  ⟨fun i h9 hi => ⟨(h.1 i h9 hi).1, (u2_row (fun e => hi (by rw [e]; exact hs))).trans (h.1 i h9 hi).2⟩, fun b n => ⟨(h.2 b n).1, (congrFun (u2_row hj) b).trans (h.2 b n).2⟩⟩
theorem kd_uf {S F : Nat → Prop} {lg lg' : LGt} {it it' : ITt} {k : Nat} {v : Int32} (hs : F k) (h : Kd S F lg it lg' it') : Kd S F lg it lg' (u2 it' 489 k v) :=
  ⟨fun i h9 hi => ⟨(h.1 i h9 hi).1, (u2_row h9).trans (h.1 i h9 hi).2⟩, fun b n => ⟨(h.2 b n).1, (u2_ne (fun e => n (by rw [e]; exact hs))).trans (h.2 b n).2⟩⟩
theorem kd_lr {S F : Nat → Prop} {lg lg' : LGt} {it it' : ITt} {j k : Nat} {v : Int64} (hj : 489 ≠ j) (hs : S j) (h : Kd S F lg it lg' it') : Kd S F lg it (u2 lg' j k v) it' :=
  ⟨fun i h9 hi => ⟨(u2_row (fun e => hi (by rw [e]; exact hs))).trans (h.1 i h9 hi).1, (h.1 i h9 hi).2⟩, fun b n => ⟨(congrFun (u2_row hj) b).trans (h.2 b n).1, (h.2 b n).2⟩⟩
theorem kd_lf {S F : Nat → Prop} {lg lg' : LGt} {it it' : ITt} {k : Nat} {v : Int64} (hs : F k) (h : Kd S F lg it lg' it') : Kd S F lg it (u2 lg' 489 k v) it' :=
  ⟨fun i h9 hi => ⟨(u2_row h9).trans (h.1 i h9 hi).1, (h.1 i h9 hi).2⟩, fun b n => ⟨(u2_ne (fun e => n (by rw [e]; exact hs))).trans (h.2 b n).1, (h.2 b n).2⟩⟩
theorem kd_g {S F : Nat → Prop} {lg lg' : LGt} {it it' : ITt} {a b : Int64} {o : Int32} (h1 : F 18) (h2 : F 19) (h3 : F 20) (h : Kd S F lg it lg' it') : Kd S F lg it (setU lg' a b) (setO it' o) := kd_uf h3 (kd_lf h2 (kd_lf h1 h))
theorem setU_row {lg : LGt} {a b : Int64} {j : Nat} (h : j ≠ 489) : setU lg a b j = lg j := (u2_row h).trans (u2_row h)
theorem setU_c {lg : LGt} {a b : Int64} {k : Nat} (h : k ≠ 18) (h2 : k ≠ 19) : setU lg a b 489 k = lg 489 k := (u2_ne h2).trans (u2_ne h)
theorem setU_18 {lg : LGt} {a b : Int64} : setU lg a b 489 18 = a := (u2_ne (by decide)).trans u2_eq
theorem setU_19 {lg : LGt} {a b : Int64} : setU lg a b 489 19 = b := u2_eq
theorem setO_row {it : ITt} {o : Int32} {j : Nat} (h : j ≠ 489) : setO it o j = it j := u2_row h
theorem setO_c {it : ITt} {o : Int32} {k : Nat} (h : k ≠ 20) : setO it o 489 k = it 489 k := u2_ne h
theorem i9_g {lg : LGt} {it : ITt} {a b : Int64} {o : Int32} (h : I9 lg it) (ho : o = 0 ∨ o = 1) : I9 (setU lg a b) (setO it o) :=
  i9_u (i9_l (i9_l h (by decide) (by decide) (by decide)) (by decide) (by decide) (by decide)) (ok9_b (a := 0) (b := 1) rfl (by rcases ho with rfl | rfl <;> decide)) (by decide) (fun _ => by decide)
theorem gT_o {a b c d : Int64} {o : Int32} (h : o = 0 ∨ o = 1) : (gTimes a b c d o).2.2 = 0 ∨ (gTimes a b c d o).2.2 = 1 := oro_01 (oro_01 h)
theorem gP_o {a b c d : Int64} {o : Int32} (h : o = 0 ∨ o = 1) : (gPlus a b c d o).2.2 = 0 ∨ (gPlus a b c d o).2.2 = 1 := oro_01 (oro_01 (oro_01 (oro_01 h)))
theorem gL_o {a b c d : Int64} {o : Int32} (h : o = 0 ∨ o = 1) : (gLess a b c d o).2.2 = 0 ∨ (gLess a b c d o).2.2 = 1 := oro_01 (oro_01 (oro_01 (oro_01 h)))
theorem gB_o {a b c d : Int64} {o : Int32} (h : o = 0 ∨ o = 1) : (gBy a b c d o).2.2 = 0 ∨ (gBy a b c d o).2.2 = 1 := by
  unfold gBy
  split
  · exact oro_01 (oro_01 h)
  · exact oro_01 (oro_01 (oro_01 (oro_01 h)))
theorem gT_d {a b c d : Int64} {o : Int32} (hb : ¬ b = 0) (hd : ¬ d = 0) : ¬ (gTimes a b c d o).2.1 = 0 := lowv_dn (lowc hb hd)
theorem gP_d {a b c d : Int64} {o : Int32} (hb : ¬ b = 0) (hd : ¬ d = 0) : ¬ (gPlus a b c d o).2.1 = 0 := lowv_dn (lowc hb hd)
theorem gL_d {a b c d : Int64} {o : Int32} (hb : ¬ b = 0) (hd : ¬ d = 0) : ¬ (gLess a b c d o).2.1 = 0 := lowv_dn (lowc hb hd)
theorem gB_d {a b c d : Int64} {o : Int32} (hb : ¬ b = 0) (hc : ¬ c = 0 ∨ ¬ o = 0) : ¬ (gBy a b c d o).2.1 = 0 := by
  unfold gBy
  split
  · refine lowv_dn ?_
    rcases hc with h2 | h2
    · exact lowc hb h2
    · exact Or.inl (oro_n (oro_n h2))
  · refine lowv_dn ?_
    rcases hc with h2 | h2
    · rcases lowc (o := oro o (ovm a d)) hb h2 with h3 | h3
      · exact Or.inl (oro_n (oro_n h3))
      · exact Or.inr (sub_ne h3)
    · exact Or.inl (oro_n (oro_n (oro_n (oro_n h2))))
theorem less0_up {a b : Int64} {o : Int32} (h : ¬ a = 0) : ¬ (gLess 0 1 a b o).1 = 0 ∨ ¬ (gLess 0 1 a b o).2.2 = 0 := by
  by_cases e : (gLess 0 1 a b o).2.2 = 0
  · left
    have e2 : (gLess 0 1 a b o).1 = (lowv (0 * b - a * 1) (1 * b) (gLess 0 1 a b o).2.2).1 := rfl
    rw [e2, e]
    refine lowv_up ?_
    rw [Int64.zero_mul, Int64.mul_one]
    exact sub_ne h
  · exact Or.inr e
theorem z_c {a b : Int64} (h : ¬ b = 0) (e : a = b) : ¬ a = 0 := by rw [e]; exact h
theorem pos_ne {x : Int64} (h : 0 < x) : ¬ x = 0 := fun q => by rw [q] at h; exact absurd h (by decide)
theorem neg_ne0 {x : Int64} (h : x < 0) : ¬ x = 0 := fun q => by rw [q] at h; exact absurd h (by decide)
theorem qd_ne (q : Int32) : ¬ quD q = 0 := by
  unfold quD
  split
  · decide
  · split
    · decide
    · split <;> decide
def W9 (lg : LGt) (it : ITt) : Prop := (0 ≤ (it 489 33).toInt → ¬ lg 489 35 = 0) ∧ ((it 489 33).toInt = -1 ∨ (((it 489 33).toInt = 0 ∨ (it 489 33).toInt = 9) ∧ 1 ≤ (it 489 0).toInt) ∨ (1 ≤ (it 489 33).toInt ∧ (it 489 33).toInt < (it 489 0).toInt))
theorem W9_c {lg lg' : LGt} {it it' : ITt} (h : W9 lg it) (a : lg' 489 35 = lg 489 35) (b : it' 489 33 = it 489 33) (c : it' 489 0 = it 489 0) : W9 lg' it' := by unfold W9; rw [a, b, c]; exact h
theorem W9_0 {lg : LGt} {it : ITt} (h : it 489 33 = -1) : W9 lg it := by unfold W9; rw [h, ti_m1]; exact ⟨fun q => by omega, Or.inl rfl⟩
theorem B9_0 {lg : LGt} {it : ITt} (h : it 489 42 = 0) : B9 lg it := by intro s _ h2; rw [h, ti_0] at h2; omega
def Nx (lg : LGt) (x : Int) : Prop := ∀ k : Nat, (k : Int) < x → ¬ lg 507 k = 0
theorem Nx_c {lg lg' : LGt} {x : Int} (h : Nx lg x) (a : lg' 507 = lg 507) : Nx lg' x := by intro k hk; rw [a]; exact h k hk
theorem Nx_0 {lg : LGt} : Nx lg (0 : Int32).toInt := by intro k hk; rw [ti_0] at hk; omega
theorem Nx_s {lg : LGt} {x y : Int} {n : Nat} {v : Int64} (h : Nx lg x) (hn : (n : Int) = x) (hy : y = x + 1) (hv : ¬ v = 0) : Nx (u2 lg 507 n v) y := by
  intro k hk
  by_cases e : k = n
  · subst e; rw [u2_eq]; exact hv
  · rw [u2_ne e]; exact h k (by omega)
theorem Nx_N {lg : LGt} {it : ITt} {x : Int} (h : Nx lg x) (hx : (it 489 0).toInt ≤ x) : N9 lg it := fun i _ h2 => h i (by omega)
theorem T9_w {lg : LGt} {it : ITt} {j k : Nat} {v : Int64} (hj : j = 503 ∨ j = 505) (h : T9 lg it) (hv : ¬ v = 0) : T9 (u2 lg j k v) it := by
  intro i a b
  obtain ⟨⟨p, q⟩, r⟩ := h i a b
  refine ⟨⟨?_, ?_⟩, r⟩
  · unfold u2; split; exact hv; exact p
  · unfold u2; split; exact hv; exact q
theorem i64_ne {x : Int32} (h : ¬ x.toInt = 0) : ¬ x.toInt64 = 0 := fun q => h (by have := congrArg Int64.toInt q; rw [Int32.toInt_toInt64] at this; exact this)
