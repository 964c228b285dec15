/-! ===== where everything lies (printed by program) ===== -/
def KL : List (Nat × Nat) := [(1, 11), (1, 7), (3, 400), (1, 6), (1, 9), (2, 401), (2, 401), (2, 401), (2, 401), (1, 5), (2, 6), (2, 6), (2, 12), (2, 12), (2, 12), (2, 12), (2, 12), (2, 12), (1, 1), (2, 240), (1, 3), (1, 9), (2, 401), (2, 401), (2, 401), (2, 401), (1, 2), (2, 12), (2, 12), (2, 12), (2, 12), (2, 400), (2, 9), (2, 32), (2, 32), (1, 5), (2, 6), (2, 6), (2, 12), (2, 12), (2, 12), (2, 12), (2, 12), (2, 12), (1, 1), (2, 240), (1, 2), (2, 12), (2, 12), (2, 12), (2, 12), (2, 400), (2, 9), (2, 32), (1, 0), (2, 12), (2, 12), (1, 5), (2, 6), (2, 6), (2, 12), (2, 12), (2, 12), (2, 12), (2, 12), (2, 12), (1, 1), (2, 240), (1, 5), (2, 6), (2, 6), (2, 12), (2, 12), (2, 12), (2, 12), (2, 12), (2, 12), (1, 1), (2, 240), (1, 2), (2, 12), (2, 12), (2, 12), (2, 12), (2, 400), (2, 9), (2, 32), (5, 12), (1, 5), (2, 6), (2, 6), (2, 12), (2, 12), (2, 12), (2, 12), (2, 12), (2, 12), (1, 1), (2, 240), (1, 5), (2, 6), (2, 6), (2, 12), (2, 12), (2, 12), (2, 12), (2, 12), (2, 12), (1, 1), (2, 240), (1, 5), (2, 6), (2, 6), (2, 12), (2, 12), (2, 12), (2, 12), (2, 12), (2, 12), (1, 1), (2, 240), (1, 5), (2, 6), (2, 6), (2, 12), (2, 12), (2, 12), (2, 12), (2, 12), (2, 12), (1, 1), (2, 240), (1, 5), (2, 6), (2, 6), (2, 12), (2, 12), (2, 12), (2, 12), (2, 12), (2, 12), (1, 1), (2, 240), (1, 5), (2, 6), (2, 6), (2, 12), (2, 12), (2, 12), (2, 12), (2, 12), (2, 12), (1, 1), (2, 240), (1, 5), (2, 6), (2, 6), (2, 12), (2, 12), (2, 12), (2, 12), (2, 12), (2, 12), (1, 1), (2, 240), (1, 5), (2, 6), (2, 6), (2, 12), (2, 12), (2, 12), (2, 12), (2, 12), (2, 12), (1, 1), (2, 240), (1, 5), (2, 6), (2, 6), (2, 12), (2, 12), (2, 12), (2, 12), (2, 12), (2, 12), (1, 1), (2, 240), (1, 5), (2, 6), (2, 6), (2, 12), (2, 12), (2, 12), (2, 12), (2, 12), (2, 12), (1, 1), (2, 240), (1, 5), (2, 6), (2, 6), (2, 12), (2, 12), (2, 12), (2, 12), (2, 12), (2, 12), (1, 1), (2, 240), (1, 5), (2, 6), (2, 6), (2, 12), (2, 12), (2, 12), (2, 12), (2, 12), (2, 12), (1, 1), (2, 240), (1, 12), (2, 2033), (2, 1184), (2, 1184), (2, 335), (2, 4020), (3, 400), (2, 5), (2, 400), (2, 6), (4, 7), (4, 1)]
theorem beqF {a b : Nat} (h : ¬ a = b) : Nat.beq a b = false := by
  cases h2 : Nat.beq a b with
  | false => rfl
  | true => exact absurd (Nat.eq_of_beq_eq_true h2) h
def nthK : List (Nat × Nat) → Nat → Nat × Nat
  | [], _ => (0, 0)
  | a :: _, 0 => a
  | _ :: r, n + 1 => nthK r n
def K0 (p : Nat) : Nat × Nat := match Nat.ble 200 p with
  | true => nthK KL (p - 200)
  | false => (0, 0)
def RL0 : List (Nat × List Nat) := [(200, [202, 204, 221, 0, 236, 247, 255, 258, 269, 280, 0, 288]), (201, [203]), (203, [205, 0, 210]), (204, [206, 207, 208, 209]), (209, [0, 211, 212, 0, 213, 214, 215, 216, 217, 218, 0, 0, 0, 0, 0, 0, 0, 219]), (218, [0, 0, 220]), (220, [222, 0, 227, 235]), (221, [223, 224, 225, 226]), (226, [0, 0, 228, 229, 230, 231, 232, 233, 234]), (235, [0, 237, 238, 0, 239, 240, 241, 242, 243, 244, 0, 0, 0, 0, 0, 0, 0, 245]), (244, [0, 0, 246]), (246, [0, 0, 248, 249, 250, 251, 252, 253, 254]), (254, [256, 257]), (257, [0, 259, 260, 0, 261, 262, 263, 264, 265, 266, 0, 0, 0, 0, 0, 0, 0, 267]), (266, [0, 0, 268]), (268, [0, 270, 271, 0, 272, 273, 274, 275, 276, 277, 0, 0, 0, 0, 0, 0, 0, 278]), (277, [0, 0, 279]), (279, [0, 0, 281, 282, 283, 284, 285, 286, 287]), (287, [289, 300, 311, 322, 333, 344, 355, 366, 377, 388, 399, 410]), (288, [0, 290, 291, 0, 292, 293, 294, 295, 296, 297, 0, 0, 0, 0, 0, 0, 0, 298]), (297, [0, 0, 299]), (299, [0, 301, 302, 0, 303, 304, 305, 306, 307, 308, 0, 0, 0, 0, 0, 0, 0, 309]), (308, [0, 0, 310]), (310, [0, 312, 313, 0, 314, 315, 316, 317, 318, 319, 0, 0, 0, 0, 0, 0, 0, 320]), (319, [0, 0, 321]), (321, [0, 323, 324, 0, 325, 326, 327, 328, 329, 330, 0, 0, 0, 0, 0, 0, 0, 331]), (330, [0, 0, 332]), (332, [0, 334, 335, 0, 336, 337, 338, 339, 340, 341, 0, 0, 0, 0, 0, 0, 0, 342]), (341, [0, 0, 343]), (343, [0, 345, 346, 0, 347, 348, 349, 350, 351, 352, 0, 0, 0, 0, 0, 0, 0, 353]), (352, [0, 0, 354]), (354, [0, 356, 357, 0, 358, 359, 360, 361, 362, 363, 0, 0, 0, 0, 0, 0, 0, 364]), (363, [0, 0, 365]), (365, [0, 367, 368, 0, 369, 370, 371, 372, 373, 374, 0, 0, 0, 0, 0, 0, 0, 375]), (374, [0, 0, 376]), (376, [0, 378, 379, 0, 380, 381, 382, 383, 384, 385, 0, 0, 0, 0, 0, 0, 0, 386]), (385, [0, 0, 387]), (387, [0, 389, 390, 0, 391, 392, 393, 394, 395, 396, 0, 0, 0, 0, 0, 0, 0, 397]), (396, [0, 0, 398]), (398, [0, 400, 401, 0, 402, 403, 404, 405, 406, 407, 0, 0, 0, 0, 0, 0, 0, 408]), (407, [0, 0, 409]), (409, [0, 411, 412, 0, 413, 414, 415, 416, 417, 418, 0, 0, 0, 0, 0, 0, 0, 419]), (418, [0, 0, 420]), (420, [0, 422, 423, 424, 425, 426, 0, 0, 427, 0, 0, 0, 0, 0, 0, 428, 0, 429, 430, 431])]
def nthN : List Nat → Nat → Nat
  | [], _ => 0
  | a :: _, 0 => a
  | _ :: r, n + 1 => nthN r n
def rcIn (p k : Nat) : List (Nat × List Nat) → Nat
  | [] => 0
  | e :: r => match Nat.beq e.1 p with
    | true => nthN e.2 k
    | false => rcIn p k r
def Rc (p k : Nat) : Nat := rcIn p k RL0
/-- the references: all fixed but the two words at hand -/
def Rw (w1 w2 : Nat) : Nat → Nat → Nat := fun p k => match Nat.beq k 9 with
  | true => match Nat.beq p 204 with
    | true => w1
    | false => match Nat.beq p 221 with
      | true => w2
      | false => Rc p k
  | false => Rc p k
theorem Rw_1 {w1 w2 x : Nat} : up2 (Rw w1 w2) 204 9 x = Rw x w2 := by
  funext p k
  by_cases hp : p = 204
  · subst hp
    by_cases hk : k = 9
    · subst hk
      simp [up2, Rw]
    · have : Nat.beq k 9 = false := beqF hk
      simp [up2, hk, Rw, this]
  · rw [up2_row hp]
    have : Nat.beq p 204 = false := beqF hp
    simp [Rw, this]
theorem Rw_2 {w1 w2 x : Nat} : up2 (Rw w1 w2) 221 9 x = Rw w1 x := by
  funext p k
  by_cases hp : p = 221
  · subst hp
    by_cases hk : k = 9
    · subst hk
      simp [up2, Rw]
    · have : Nat.beq k 9 = false := beqF hk
      simp [up2, hk, Rw, this]
  · rw [up2_row hp]
    have : Nat.beq p 221 = false := beqF hp
    simp [Rw, this]
abbrev hp (I : Nat → Nat → Int32) (L : Nat → Nat → Int64) (w1 w2 t : Nat) : aH := (K0, I, L, Rw w1 w2, t)
def stps : List Nat := [209, 235, 257, 268, 288, 299, 310, 321, 332, 343, 354, 365, 376, 387, 398, 409]
def lwps : List Nat := [226, 246, 279]
abbrev stp (a : Nat) : Prop := a ∈ stps
abbrev lwp (a : Nat) : Prop := a ∈ lwps
def skind (j : Nat) : Nat × Nat := nthK [(1, 5), (2, 6), (2, 6), (2, 12), (2, 12), (2, 12), (2, 12), (2, 12), (2, 12), (1, 1), (2, 240)] j
def lkind (j : Nat) : Nat × Nat := nthK [(1, 2), (2, 12), (2, 12), (2, 12), (2, 12), (2, 400), (2, 9), (2, 32)] j
theorem kS_all : ∀ a ∈ stps, ∀ j, j < 11 → K0 (a + j) = skind j := by decide +kernel
theorem kL_all : ∀ a ∈ lwps, ∀ j, j < 8 → K0 (a + j) = lkind j := by decide +kernel
theorem rS_all : ∀ a ∈ stps, Rc a 1 = a + 2 ∧ Rc a 2 = a + 3 ∧ Rc a 4 = a + 4 ∧ Rc a 5 = a + 5 ∧ Rc a 6 = a + 6 ∧ Rc a 7 = a + 7 ∧ Rc a 8 = a + 8 ∧ Rc a 9 = a + 9 ∧ Rc a 17 = a + 10 ∧ Rc (a + 9) 2 = a + 11 ∧ Nat.beq a 204 = false ∧ Nat.beq a 221 = false ∧ Nat.beq (a + 9) 204 = false ∧ Nat.beq (a + 9) 221 = false := by decide +kernel
theorem rL_all : ∀ a ∈ lwps, Rc a 2 = a + 2 ∧ Rc a 3 = a + 3 ∧ Rc a 4 = a + 4 ∧ Rc a 5 = a + 5 ∧ Rc a 6 = a + 6 ∧ Rc a 7 = a + 7 ∧ Rc a 8 = a + 8 := by decide +kernel
theorem stp_200 : ∀ a ∈ stps, 200 ≤ a ∧ a < 432 := by decide +kernel
theorem kS0 {a : Nat} (h : stp a) : K0 a = (1, 5) := kS_all a h 0 (by decide)
theorem kS1 {a : Nat} (h : stp a) : K0 (a + 1) = (2, 6) := kS_all a h 1 (by decide)
theorem kS2 {a : Nat} (h : stp a) : K0 (a + 2) = (2, 6) := kS_all a h 2 (by decide)
theorem kS3 {a : Nat} (h : stp a) : K0 (a + 3) = (2, 12) := kS_all a h 3 (by decide)
theorem kS4 {a : Nat} (h : stp a) : K0 (a + 4) = (2, 12) := kS_all a h 4 (by decide)
theorem kS5 {a : Nat} (h : stp a) : K0 (a + 5) = (2, 12) := kS_all a h 5 (by decide)
theorem kS6 {a : Nat} (h : stp a) : K0 (a + 6) = (2, 12) := kS_all a h 6 (by decide)
theorem kS7 {a : Nat} (h : stp a) : K0 (a + 7) = (2, 12) := kS_all a h 7 (by decide)
theorem kS8 {a : Nat} (h : stp a) : K0 (a + 8) = (2, 12) := kS_all a h 8 (by decide)
theorem kS9 {a : Nat} (h : stp a) : K0 (a + 9) = (1, 1) := kS_all a h 9 (by decide)
theorem kS10 {a : Nat} (h : stp a) : K0 (a + 10) = (2, 240) := kS_all a h 10 (by decide)
theorem kW0 {a : Nat} (h : lwp a) : K0 a = (1, 2) := kL_all a h 0 (by decide)
theorem kW1 {a : Nat} (h : lwp a) : K0 (a + 1) = (2, 12) := kL_all a h 1 (by decide)
theorem kW2 {a : Nat} (h : lwp a) : K0 (a + 2) = (2, 12) := kL_all a h 2 (by decide)
theorem kW3 {a : Nat} (h : lwp a) : K0 (a + 3) = (2, 12) := kL_all a h 3 (by decide)
theorem kW4 {a : Nat} (h : lwp a) : K0 (a + 4) = (2, 12) := kL_all a h 4 (by decide)
theorem kW5 {a : Nat} (h : lwp a) : K0 (a + 5) = (2, 400) := kL_all a h 5 (by decide)
theorem kW6 {a : Nat} (h : lwp a) : K0 (a + 6) = (2, 9) := kL_all a h 6 (by decide)
theorem kW7 {a : Nat} (h : lwp a) : K0 (a + 7) = (2, 32) := kL_all a h 7 (by decide)
theorem rS1 {a w1 w2 : Nat} (h : stp a) : Rw w1 w2 a 1 = (a + 1) + 1 := (rS_all a h).1
theorem rS2 {a w1 w2 : Nat} (h : stp a) : Rw w1 w2 a 2 = (a + 2) + 1 := (rS_all a h).2.1
theorem rS4 {a w1 w2 : Nat} (h : stp a) : Rw w1 w2 a 4 = (a + 3) + 1 := (rS_all a h).2.2.1
theorem rS5 {a w1 w2 : Nat} (h : stp a) : Rw w1 w2 a 5 = (a + 4) + 1 := (rS_all a h).2.2.2.1
theorem rS6 {a w1 w2 : Nat} (h : stp a) : Rw w1 w2 a 6 = (a + 5) + 1 := (rS_all a h).2.2.2.2.1
theorem rS7 {a w1 w2 : Nat} (h : stp a) : Rw w1 w2 a 7 = (a + 6) + 1 := (rS_all a h).2.2.2.2.2.1
theorem rS8 {a w1 w2 : Nat} (h : stp a) : Rw w1 w2 a 8 = (a + 7) + 1 := (rS_all a h).2.2.2.2.2.2.1
theorem rS9 {a w1 w2 : Nat} (h : stp a) : Rw w1 w2 a 9 = (a + 8) + 1 := by
  obtain ⟨-, -, -, -, -, -, -, h8, -, -, e1, e2, -⟩ := rS_all a h
  simp [Rw, e1, e2, h8]
theorem rS17 {a w1 w2 : Nat} (h : stp a) : Rw w1 w2 a 17 = (a + 9) + 1 := (rS_all a h).2.2.2.2.2.2.2.2.1
theorem rS29 {a w1 w2 : Nat} (h : stp a) : Rw w1 w2 (a + 9) 2 = (a + 10) + 1 := (rS_all a h).2.2.2.2.2.2.2.2.2.1
theorem rW2 {a w1 w2 : Nat} (h : lwp a) : Rw w1 w2 a 2 = (a + 1) + 1 := (rL_all a h).1
theorem rW3 {a w1 w2 : Nat} (h : lwp a) : Rw w1 w2 a 3 = (a + 2) + 1 := (rL_all a h).2.1
theorem rW4 {a w1 w2 : Nat} (h : lwp a) : Rw w1 w2 a 4 = (a + 3) + 1 := (rL_all a h).2.2.1
theorem rW5 {a w1 w2 : Nat} (h : lwp a) : Rw w1 w2 a 5 = (a + 4) + 1 := (rL_all a h).2.2.2.1
theorem rW6 {a w1 w2 : Nat} (h : lwp a) : Rw w1 w2 a 6 = (a + 5) + 1 := (rL_all a h).2.2.2.2.1
theorem rW7 {a w1 w2 : Nat} (h : lwp a) : Rw w1 w2 a 7 = (a + 6) + 1 := (rL_all a h).2.2.2.2.2.1
theorem rW8 {a w1 w2 : Nat} (h : lwp a) : Rw w1 w2 a 8 = (a + 7) + 1 := (rL_all a h).2.2.2.2.2.2
