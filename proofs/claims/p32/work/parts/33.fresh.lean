/-! ===== the heap when all is made ===== -/
def Kz : Nat → Nat × Nat := upK (kX12 (upK (kX11 (upK (fun _ => (0, 0)) 200 (1, 11))) 420 (1, 12))) 431 (4, 1)
def I0 : Nat → Nat → Int32 := iX12 (iX11 (fun _ _ => 0))
def Rz : Nat → Nat → Nat := rX12 (rX11 (fun _ _ => 0))
theorem nthK_out {l : List (Nat × Nat)} {n : Nat} (h : l.length ≤ n) : nthK l n = (0, 0) := by
  induction l generalizing n with
  | nil => rfl
  | cons a l ih =>
    cases n with
    | zero => simp at h
    | succ n => exact ih (by simpa using h)
theorem nthN_out {l : List Nat} {n : Nat} (h : l.length ≤ n) : nthN l n = 0 := by
  induction l generalizing n with
  | nil => rfl
  | cons a l ih =>
    cases n with
    | zero => simp at h
    | succ n => exact ih (by simpa using h)
set_option maxRecDepth 100000
theorem Kz_lt : ∀ p, p < 432 → Kz p = K0 p := by decide +kernel
theorem Kz_eq : Kz = K0 := by
  funext p
  rcases Nat.lt_or_ge p 432 with h | h
  · exact Kz_lt p h
  · have e1 : K0 p = (0, 0) := by
      have : Nat.ble 200 p = true := Nat.ble_eq_true_of_le (by omega)
      unfold K0
      rw [this]
      exact nthK_out (by show 232 ≤ p - 200; omega)
    rw [e1]
    simp (disch := omega) only [Kz, kX12, kX11, kX3, kX6, kX8_3, kX8_6, kX5, kX9, kX7, kX2, kX0, kX1, upK_ne]
def rzl : List (Nat × Nat × Nat) := [(420, 19, 431), (420, 18, 430), (420, 17, 429), (420, 15, 428), (420, 8, 427), (420, 5, 426), (420, 4, 425), (420, 3, 424), (420, 2, 423), (420, 1, 422), (287, 11, 410), (409, 17, 419), (418, 2, 420), (409, 9, 418), (409, 8, 417), (409, 7, 416), (409, 6, 415), (409, 5, 414), (409, 4, 413), (409, 2, 412), (409, 1, 411), (287, 10, 399), (398, 17, 408), (407, 2, 409), (398, 9, 407), (398, 8, 406), (398, 7, 405), (398, 6, 404), (398, 5, 403), (398, 4, 402), (398, 2, 401), (398, 1, 400), (287, 9, 388), (387, 17, 397), (396, 2, 398), (387, 9, 396), (387, 8, 395), (387, 7, 394), (387, 6, 393), (387, 5, 392), (387, 4, 391), (387, 2, 390), (387, 1, 389), (287, 8, 377), (376, 17, 386), (385, 2, 387), (376, 9, 385), (376, 8, 384), (376, 7, 383), (376, 6, 382), (376, 5, 381), (376, 4, 380), (376, 2, 379), (376, 1, 378), (287, 7, 366), (365, 17, 375), (374, 2, 376), (365, 9, 374), (365, 8, 373), (365, 7, 372), (365, 6, 371), (365, 5, 370), (365, 4, 369), (365, 2, 368), (365, 1, 367), (287, 6, 355), (354, 17, 364), (363, 2, 365), (354, 9, 363), (354, 8, 362), (354, 7, 361), (354, 6, 360), (354, 5, 359), (354, 4, 358), (354, 2, 357), (354, 1, 356), (287, 5, 344), (343, 17, 353), (352, 2, 354), (343, 9, 352), (343, 8, 351), (343, 7, 350), (343, 6, 349), (343, 5, 348), (343, 4, 347), (343, 2, 346), (343, 1, 345), (287, 4, 333), (332, 17, 342), (341, 2, 343), (332, 9, 341), (332, 8, 340), (332, 7, 339), (332, 6, 338), (332, 5, 337), (332, 4, 336), (332, 2, 335), (332, 1, 334), (287, 3, 322), (321, 17, 331), (330, 2, 332), (321, 9, 330), (321, 8, 329), (321, 7, 328), (321, 6, 327), (321, 5, 326), (321, 4, 325), (321, 2, 324), (321, 1, 323), (287, 2, 311), (310, 17, 320), (319, 2, 321), (310, 9, 319), (310, 8, 318), (310, 7, 317), (310, 6, 316), (310, 5, 315), (310, 4, 314), (310, 2, 313), (310, 1, 312), (287, 1, 300), (299, 17, 309), (308, 2, 310), (299, 9, 308), (299, 8, 307), (299, 7, 306), (299, 6, 305), (299, 5, 304), (299, 4, 303), (299, 2, 302), (299, 1, 301), (287, 0, 289), (288, 17, 298), (297, 2, 299), (288, 9, 297), (288, 8, 296), (288, 7, 295), (288, 6, 294), (288, 5, 293), (288, 4, 292), (288, 2, 291), (288, 1, 290), (200, 11, 288), (200, 9, 280), (279, 8, 287), (279, 7, 286), (279, 6, 285), (279, 5, 284), (279, 4, 283), (279, 3, 282), (279, 2, 281), (200, 8, 269), (268, 17, 278), (277, 2, 279), (268, 9, 277), (268, 8, 276), (268, 7, 275), (268, 6, 274), (268, 5, 273), (268, 4, 272), (268, 2, 271), (268, 1, 270), (200, 7, 258), (257, 17, 267), (266, 2, 268), (257, 9, 266), (257, 8, 265), (257, 7, 264), (257, 6, 263), (257, 5, 262), (257, 4, 261), (257, 2, 260), (257, 1, 259), (200, 6, 255), (254, 1, 257), (254, 0, 256), (200, 5, 247), (246, 8, 254), (246, 7, 253), (246, 6, 252), (246, 5, 251), (246, 4, 250), (246, 3, 249), (246, 2, 248), (200, 4, 236), (235, 17, 245), (244, 2, 246), (235, 9, 244), (235, 8, 243), (235, 7, 242), (235, 6, 241), (235, 5, 240), (235, 4, 239), (235, 2, 238), (235, 1, 237), (200, 2, 221), (220, 3, 235), (220, 2, 227), (226, 8, 234), (226, 7, 233), (226, 6, 232), (226, 5, 231), (226, 4, 230), (226, 3, 229), (226, 2, 228), (220, 0, 222), (221, 3, 226), (221, 2, 225), (221, 1, 224), (221, 0, 223), (200, 1, 204), (203, 2, 210), (209, 17, 219), (218, 2, 220), (209, 9, 218), (209, 8, 217), (209, 7, 216), (209, 6, 215), (209, 5, 214), (209, 4, 213), (209, 2, 212), (209, 1, 211), (203, 0, 205), (204, 3, 209), (204, 2, 208), (204, 1, 207), (204, 0, 206), (200, 0, 202), (201, 0, 203)]
def Rl (l : List (Nat × Nat × Nat)) : Nat → Nat → Nat := List.foldr (fun e f => up2 f e.1 e.2.1 e.2.2) (fun _ _ => 0) l
theorem Rz_l : Rz = Rl rzl := rfl
theorem Rl_out {p k : Nat} (l : List (Nat × Nat × Nat)) (h : ¬ ∃ e ∈ l, e.1 = p ∧ e.2.1 = k) : Rl l p k = 0 := by
  induction l with
  | nil => rfl
  | cons a l ih =>
    have h1 : ¬ (a.1 = p ∧ a.2.1 = k) := fun z => h ⟨a, List.mem_cons_self, z⟩
    show up2 (Rl l) a.1 a.2.1 a.2.2 p k = 0
    rw [up2_ne (by omega)]
    exact ih fun ⟨e, he, z⟩ => h ⟨e, List.mem_cons_of_mem _ he, z⟩
theorem rcIn_or {p k : Nat} (l : List (Nat × List Nat)) : rcIn p k l = 0 ∨ ∃ e ∈ l, e.1 = p ∧ k < e.2.length := by
  induction l with
  | nil => exact Or.inl rfl
  | cons a l ih =>
    cases hb : Nat.beq a.1 p with
    | false =>
      simp only [rcIn, hb]
      rcases ih with h | ⟨e, he, z⟩
      · exact Or.inl h
      · exact Or.inr ⟨e, List.mem_cons_of_mem _ he, z⟩
    | true =>
      simp only [rcIn, hb]
      rcases Nat.lt_or_ge k a.2.length with h | h
      · exact Or.inr ⟨a, List.mem_cons_self, Nat.eq_of_beq_eq_true hb, h⟩
      · exact Or.inl (nthN_out h)
theorem Rl_a : ∀ e ∈ rzl, Rl rzl e.1 e.2.1 = Rc e.1 e.2.1 := by decide +kernel
theorem Rl_b : ∀ e ∈ RL0, ∀ k, k < e.2.length → Rl rzl e.1 k = Rc e.1 k := by decide +kernel
theorem Rz_Rc : Rz = Rc := by
  rw [Rz_l]
  funext p k
  by_cases h : ∃ e ∈ rzl, e.1 = p ∧ e.2.1 = k
  · obtain ⟨e, he, rfl, rfl⟩ := h
    exact Rl_a e he
  · rw [Rl_out rzl h]
    rcases rcIn_or (p := p) (k := k) RL0 with h1 | ⟨e, he, rfl, h2⟩
    · exact h1.symm
    · rw [← Rl_b e he k h2, Rl_out rzl h]
theorem Rc_w : Rc 204 9 = 0 ∧ Rc 221 9 = 0 := by decide +kernel
theorem Rz_eq : Rz = Rw 0 0 := by
  rw [Rz_Rc]
  funext p k
  by_cases hk : k = 9
  · subst hk
    by_cases h1 : p = 204
    · subst h1; simp [Rw, Rc_w.1]
    · by_cases h2 : p = 221
      · subst h2; simp [Rw, Rc_w.2]
      · have e1 : Nat.beq p 204 = false := beqF h1
        have e2 : Nat.beq p 221 = false := beqF h2
        simp [Rw, e1, e2]
  · have : Nat.beq k 9 = false := beqF hk
    simp [Rw, this]
