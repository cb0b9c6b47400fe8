/-! what the cells hold when both objects are new -/
def RFA0 : List (List (Option Nat)) := [[some 1, some 28, none, some 55, some 450, some 467, some 473, some 486, some 487, some 488], [some 2, some 19, some 22, some 25], [none, some 3, some 4, some 5, none, some 18], [], [some 6, some 8, some 10, some 12, some 14, some 16], [some 7, some 9, some 11, some 13, some 15, some 17], [], [], [], [], [], [], [], [], [], [], [], [], [], [some 20, some 21], [], [], [some 23, some 24], [], [], [some 26, some 27], [], [], [some 29, some 46, some 49, some 52], [none, some 30, some 31, some 32, none, some 45], [], [some 33, some 35, some 37, some 39, some 41, some 43], [some 34, some 36, some 38, some 40, some 42, some 44], [], [], [], [], [], [], []]
def RFA1 : List (List (Option Nat)) := [[], [], [], [], [], [], [some 47, some 48], [], [], [some 50, some 51], [], [], [some 53, some 54], [], [], [some 56, some 57, some 436, none, none, none, some 437], [some 58, some 76, some 94, some 112, some 130, some 148, some 166, some 184, some 202, some 220, some 238, some 256, some 274, some 292, some 310, some 328, some 346, some 364, some 382, some 400, some 418], [some 75, some 93, some 111, some 129, some 147, some 165, some 183, some 201, some 219, some 237, some 255, some 273, some 291, some 309, some 327, some 345, some 363, some 381, some 399, some 417, some 435], [none, some 59, some 60, some 61, none, some 74], [], [some 62, some 64, some 66, some 68, some 70, some 72], [some 63, some 65, some 67, some 69, some 71, some 73], [], [], [], [], [], [], [], [], [], [], [], [], [], [], [none, some 77, some 78, some 79, none, some 92], [], [some 80, some 82, some 84, some 86, some 88, some 90], [some 81, some 83, some 85, some 87, some 89, some 91]]
def RFA2 : List (List (Option Nat)) := [[], [], [], [], [], [], [], [], [], [], [], [], [], [], [none, some 95, some 96, some 97, none, some 110], [], [some 98, some 100, some 102, some 104, some 106, some 108], [some 99, some 101, some 103, some 105, some 107, some 109], [], [], [], [], [], [], [], [], [], [], [], [], [], [], [none, some 113, some 114, some 115, none, some 128], [], [some 116, some 118, some 120, some 122, some 124, some 126], [some 117, some 119, some 121, some 123, some 125, some 127], [], [], [], []]
def RFA3 : List (List (Option Nat)) := [[], [], [], [], [], [], [], [], [], [], [none, some 131, some 132, some 133, none, some 146], [], [some 134, some 136, some 138, some 140, some 142, some 144], [some 135, some 137, some 139, some 141, some 143, some 145], [], [], [], [], [], [], [], [], [], [], [], [], [], [], [none, some 149, some 150, some 151, none, some 164], [], [some 152, some 154, some 156, some 158, some 160, some 162], [some 153, some 155, some 157, some 159, some 161, some 163], [], [], [], [], [], [], [], []]
def RFA4 : List (List (Option Nat)) := [[], [], [], [], [], [], [none, some 167, some 168, some 169, none, some 182], [], [some 170, some 172, some 174, some 176, some 178, some 180], [some 171, some 173, some 175, some 177, some 179, some 181], [], [], [], [], [], [], [], [], [], [], [], [], [], [], [none, some 185, some 186, some 187, none, some 200], [], [some 188, some 190, some 192, some 194, some 196, some 198], [some 189, some 191, some 193, some 195, some 197, some 199], [], [], [], [], [], [], [], [], [], [], [], []]
def RFA5 : List (List (Option Nat)) := [[], [], [none, some 203, some 204, some 205, none, some 218], [], [some 206, some 208, some 210, some 212, some 214, some 216], [some 207, some 209, some 211, some 213, some 215, some 217], [], [], [], [], [], [], [], [], [], [], [], [], [], [], [none, some 221, some 222, some 223, none, some 236], [], [some 224, some 226, some 228, some 230, some 232, some 234], [some 225, some 227, some 229, some 231, some 233, some 235], [], [], [], [], [], [], [], [], [], [], [], [], [], [], [none, some 239, some 240, some 241, none, some 254], []]
def RFA6 : List (List (Option Nat)) := [[some 242, some 244, some 246, some 248, some 250, some 252], [some 243, some 245, some 247, some 249, some 251, some 253], [], [], [], [], [], [], [], [], [], [], [], [], [], [], [none, some 257, some 258, some 259, none, some 272], [], [some 260, some 262, some 264, some 266, some 268, some 270], [some 261, some 263, some 265, some 267, some 269, some 271], [], [], [], [], [], [], [], [], [], [], [], [], [], [], [none, some 275, some 276, some 277, none, some 290], [], [some 278, some 280, some 282, some 284, some 286, some 288], [some 279, some 281, some 283, some 285, some 287, some 289], [], []]
def RFA7 : List (List (Option Nat)) := [[], [], [], [], [], [], [], [], [], [], [], [], [none, some 293, some 294, some 295, none, some 308], [], [some 296, some 298, some 300, some 302, some 304, some 306], [some 297, some 299, some 301, some 303, some 305, some 307], [], [], [], [], [], [], [], [], [], [], [], [], [], [], [none, some 311, some 312, some 313, none, some 326], [], [some 314, some 316, some 318, some 320, some 322, some 324], [some 315, some 317, some 319, some 321, some 323, some 325], [], [], [], [], [], []]
def RFA8 : List (List (Option Nat)) := [[], [], [], [], [], [], [], [], [none, some 329, some 330, some 331, none, some 344], [], [some 332, some 334, some 336, some 338, some 340, some 342], [some 333, some 335, some 337, some 339, some 341, some 343], [], [], [], [], [], [], [], [], [], [], [], [], [], [], [none, some 347, some 348, some 349, none, some 362], [], [some 350, some 352, some 354, some 356, some 358, some 360], [some 351, some 353, some 355, some 357, some 359, some 361], [], [], [], [], [], [], [], [], [], []]
def RFA9 : List (List (Option Nat)) := [[], [], [], [], [none, some 365, some 366, some 367, none, some 380], [], [some 368, some 370, some 372, some 374, some 376, some 378], [some 369, some 371, some 373, some 375, some 377, some 379], [], [], [], [], [], [], [], [], [], [], [], [], [], [], [none, some 383, some 384, some 385, none, some 398], [], [some 386, some 388, some 390, some 392, some 394, some 396], [some 387, some 389, some 391, some 393, some 395, some 397], [], [], [], [], [], [], [], [], [], [], [], [], [], []]
def RFA10 : List (List (Option Nat)) := [[none, some 401, some 402, some 403, none, some 416], [], [some 404, some 406, some 408, some 410, some 412, some 414], [some 405, some 407, some 409, some 411, some 413, some 415], [], [], [], [], [], [], [], [], [], [], [], [], [], [], [none, some 419, some 420, some 421, none, some 434], [], [some 422, some 424, some 426, some 428, some 430, some 432], [some 423, some 425, some 427, some 429, some 431, some 433], [], [], [], [], [], [], [], [], [], [], [], [], [], [], [], [some 438, some 439, some 440, some 441, some 442, some 443, some 444, some 445, some 446, some 447, some 448, some 449], [], []]
def RFA11 : List (List (Option Nat)) := [[], [], [], [], [], [], [], [], [], [], [none, some 451, some 452, some 453, none, some 466], [], [some 454, some 456, some 458, some 460, some 462, some 464], [some 455, some 457, some 459, some 461, some 463, some 465], [], [], [], [], [], [], [], [], [], [], [], [], [], [some 468, none, some 469, some 470, some 471, some 472], [], [], [], [], [], [some 474, some 476, some 478, some 480, some 482, some 484], [none, none, some 475], [], [none, none, some 477], [], [none, none, some 479], []]
def RFA12 : List (List (Option Nat)) := [[none, none, some 481], [], [none, none, some 483], [], [none, none, some 485], [], [], [], [], [none, none, none, none, some 490, some 491, some 492, some 493, some 494, none, none, none, some 495, some 496, some 497, some 498, some 499, some 500, none, none, none, some 501, some 502, some 503, some 504, some 505, some 506, some 507, none, none, none, none, none, none, none, none, none, none, none, none, none, none, none, none, some 508, some 509, some 510, some 511, some 512, some 513, none, none, some 514, some 515, some 516, some 517, some 518, some 519, some 520, some 521, some 522], [], [], [], [], [], [], [], [], [], [], [], [], [], [], [], [], [], [], [], [], [], [], [], [], [], [], [], [], [], []]
def RFA13 : List (List (Option Nat)) := [[], [], []]
def RFL : List (List (Option Nat)) := RFA0 ++ (RFA1 ++ (RFA2 ++ (RFA3 ++ (RFA4 ++ (RFA5 ++ (RFA6 ++ (RFA7 ++ (RFA8 ++ (RFA9 ++ (RFA10 ++ (RFA11 ++ (RFA12 ++ (RFA13)))))))))))))
def RF0 (j k : Nat) : Option Nat := (RFL.getD j []).getD k none
def LG0 (j k : Nat) : Int64 := if (LAY j).1 = 1 ∧ k = 1 then 1 else 0
def IT0 (j k : Nat) : Int32 := match (LAY j).1 with
  | 3 => if k = 4 then 4 else 0
  | 0 => if k = 5 then -1 else 0
  | 6 => if k = 0 then -1 else 0
  | 9 => if k = 1 ∨ k = 2 ∨ k = 3 then 4 else 0
  | 11 => if (LAY j).2 = 2 ∧ k < 2 then 4 else if j = 518 ∧ k < 6 then -1 else 0
  | _ => 0
abbrev NT : Nat := 523
def rb : List Nat := [2, 29, 58, 76, 94, 112, 130, 148, 166, 184, 202, 220, 238, 256, 274, 292, 310, 328, 346, 364, 382, 400, 418, 450]
def railLay (o : Nat) : Nat × Nat := match o with | 0 => (3, 6) | 1 => (11, 6) | 2 => (13, 6) | 3 => (13, 6) | 16 => (11, 2) | _ => (1, 3)
theorem rb_lay : ∀ r ∈ rb, ∀ o, o < 17 → LAY (r + o) = railLay o := by decide +kernel
theorem rb_rf : ∀ r ∈ rb, r + 17 ≤ 489 ∧ RF0 r 1 = some (r + 1) ∧ RF0 r 2 = some (r + 2) ∧ RF0 r 3 = some (r + 3) ∧ RF0 r 5 = some (r + 16) ∧ (∀ i, i < 6 → RF0 (r + 2) i = some (r + 4 + 2 * i) ∧ RF0 (r + 3) i = some (r + 5 + 2 * i)) := by decide +kernel
/-- rows of the memory are as they are at the start -/
def Fr (lo hi : Nat) (lg : LGt) (it : ITt) (rf : RFt) : Prop := ∀ j, lo ≤ j → j < hi → lg j = LG0 j ∧ it j = IT0 j ∧ rf j = RF0 j
/-- rows that are left alone -/
def Sm (p : Nat → Prop) (lg lg' : LGt) (it it' : ITt) : Prop := ∀ j, p j → lg' j = lg j ∧ it' j = it j
theorem gr {P : PT} {pc : Nat} {ls st : List Value} {N : Nat} {lg : LGt} {it : ITt} {rf : RFt} {j k q : Nat} (h : rf j k = some q) (kk : P pc ls (.ref q :: st) N lg it rf) : P pc ls (fva lg it rf j k 2 :: st) N lg it rf := by
  unfold fva
  rw [h]
  exact kk
theorem grv {P : PT} {pc : Nat} {ls st : List Value} {N : Nat} {lg : LGt} {it : ITt} {rf : RFt} {o : Option Nat} {q : Nat} (h : o = some q) (kk : P pc ls (.ref q :: st) N lg it rf) : P pc ls (rfv o :: st) N lg it rf := by
  rw [h]
  exact kk
theorem n0 {P : PT} {pc : Nat} {ls st : List Value} {N : Nat} {lg : LGt} {it : ITt} {rf : RFt} (kk : P pc ls st N lg it rf) : P pc ls st (N + 0) lg it rf := kk
theorem nM {P : PT} {pc : Nat} {ls st : List Value} {N M : Nat} {lg : LGt} {it : ITt} {rf : RFt} (e : N = M) (kk : P pc ls st M lg it rf) : P pc ls st N lg it rf := e ▸ kk
/-- a fraction's cell is set -/
def sL (lg : LGt) (i : Nat) (a b : Int64) : LGt := fun x k => if x = i then (if k = 0 then a else if k = 1 then b else lg x k) else lg x k
def sI (it : ITt) (i k : Nat) (o : Int32) : ITt := u2 it i k o
theorem sL_row {lg : LGt} {i x : Nat} {a b : Int64} (h : x ≠ i) : sL lg i a b x = lg x := by
  funext k
  simp [sL, h]
theorem sL_0 {lg : LGt} {i : Nat} {a b : Int64} : sL lg i a b i 0 = a := by simp [sL]
theorem sL_1 {lg : LGt} {i : Nat} {a b : Int64} : sL lg i a b i 1 = b := by simp [sL]
theorem sL_id {lg : LGt} {i : Nat} : sL lg i (lg i 0) (lg i 1) = lg := by
  funext x k
  unfold sL
  split
  · rename_i h; subst h; split
    · rename_i h; subst h; rfl
    · split
      · rename_i h; subst h; rfl
      · rfl
  · rfl
theorem sL_u2 {lg : LGt} {i : Nat} {a b : Int64} : u2 (u2 lg i 0 a) i 1 b = sL lg i a b := by
  funext x k
  unfold u2 sL
  by_cases hx : x = i
  · by_cases h0 : k = 0
    · subst h0; simp [hx]
    · by_cases h1 : k = 1
      · subst h1; simp [hx]
      · simp [hx, h0, h1]
  · simp [hx]
theorem u2_u2 {α : Type} {f : Nat → Nat → α} {i k : Nat} {v w : α} : u2 (u2 f i k v) i k w = u2 f i k w := by
  funext x b
  unfold u2
  split <;> rfl
theorem u2_id {α : Type} {f : Nat → Nat → α} {i k : Nat} : u2 f i k (f i k) = f := by
  funext x b
  unfold u2
  split
  · rename_i h; rw [h.1, h.2]
  · rfl
theorem ki_m1 : Int32.ofInt (-1) = (-1) := by decide
theorem ki_0 : Int32.ofInt 0 = 0 := by decide
theorem ki_1 : Int32.ofInt 1 = 1 := by decide
theorem ki_2 : Int32.ofInt 2 = 2 := by decide
theorem ki_3 : Int32.ofInt 3 = 3 := by decide
theorem ki_4 : Int32.ofInt 4 = 4 := by decide
theorem ki_5 : Int32.ofInt 5 = 5 := by decide
theorem kb_m14 : (Int8.ofInt (-14)).toInt32 = (-14) := by decide
theorem kb_m13 : (Int8.ofInt (-13)).toInt32 = (-13) := by decide
theorem kb_m12 : (Int8.ofInt (-12)).toInt32 = (-12) := by decide
theorem kb_m11 : (Int8.ofInt (-11)).toInt32 = (-11) := by decide
theorem kb_m10 : (Int8.ofInt (-10)).toInt32 = (-10) := by decide
theorem kb_m9 : (Int8.ofInt (-9)).toInt32 = (-9) := by decide
theorem kb_m6 : (Int8.ofInt (-6)).toInt32 = (-6) := by decide
theorem kb_m5 : (Int8.ofInt (-5)).toInt32 = (-5) := by decide
theorem kb_m4 : (Int8.ofInt (-4)).toInt32 = (-4) := by decide
theorem kb_m3 : (Int8.ofInt (-3)).toInt32 = (-3) := by decide
theorem kb_m2 : (Int8.ofInt (-2)).toInt32 = (-2) := by decide
theorem kb_6 : (Int8.ofInt 6).toInt32 = 6 := by decide
theorem kb_7 : (Int8.ofInt 7).toInt32 = 7 := by decide
theorem kb_8 : (Int8.ofInt 8).toInt32 = 8 := by decide
theorem kb_9 : (Int8.ofInt 9).toInt32 = 9 := by decide
theorem kb_10 : (Int8.ofInt 10).toInt32 = 10 := by decide
theorem kb_12 : (Int8.ofInt 12).toInt32 = 12 := by decide
theorem kb_20 : (Int8.ofInt 20).toInt32 = 20 := by decide
theorem kb_21 : (Int8.ofInt 21).toInt32 = 21 := by decide
theorem kb_31 : (Int8.ofInt 31).toInt32 = 31 := by decide
theorem kb_32 : (Int8.ofInt 32).toInt32 = 32 := by decide
theorem kb_44 : (Int8.ofInt 44).toInt32 = 44 := by decide
theorem kb_45 : (Int8.ofInt 45).toInt32 = 45 := by decide
theorem kb_48 : (Int8.ofInt 48).toInt32 = 48 := by decide
theorem kb_57 : (Int8.ofInt 57).toInt32 = 57 := by decide
theorem kb_59 : (Int8.ofInt 59).toInt32 = 59 := by decide
theorem kb_60 : (Int8.ofInt 60).toInt32 = 60 := by decide
theorem kb_80 : (Int8.ofInt 80).toInt32 = 80 := by decide
theorem kb_98 : (Int8.ofInt 98).toInt32 = 98 := by decide
theorem kb_99 : (Int8.ofInt 99).toInt32 = 99 := by decide
theorem kb_100 : (Int8.ofInt 100).toInt32 = 100 := by decide
theorem kb_101 : (Int8.ofInt 101).toInt32 = 101 := by decide
theorem kb_103 : (Int8.ofInt 103).toInt32 = 103 := by decide
theorem kb_108 : (Int8.ofInt 108).toInt32 = 108 := by decide
theorem kb_110 : (Int8.ofInt 110).toInt32 = 110 := by decide
theorem kb_114 : (Int8.ofInt 114).toInt32 = 114 := by decide
theorem kb_127 : (Int8.ofInt 127).toInt32 = 127 := by decide
theorem ks_200 : (Int16.ofInt 200).toInt32 = 200 := by decide
theorem ks_240 : (Int16.ofInt 240).toInt32 = 240 := by decide
theorem ks_360 : (Int16.ofInt 360).toInt32 = 360 := by decide
theorem kl_0 : Int64.ofNat ((0 : Fin 2) : Nat) = 0 := by decide
theorem kl_1 : Int64.ofNat ((1 : Fin 2) : Nat) = 1 := by decide
theorem gs {P : PT} {pc : Nat} {ls st : List Value} {N : Nat} {lg : LGt} {it : ITt} {rf : RFt} (ls2 : List Value) (e : ls = ls2) (kk : P pc ls2 st N lg it rf) : P pc ls st N lg it rf := e ▸ kk
