section
/-! ===== the heap when all is made ===== -/
def Kz : Nat → Nat × Nat := upK (kX12 (upK (kX11 (upK (fun _ => (0, 0)) 200 (1, 11))) 420 (1, 12))) 431 (4, 1)
def I0 : Nat → Nat → Int32 := iX12 (iX11 (fun _ _ => 0))
def Rz : Nat → Nat → Nat := rX12 (rX11 (fun _ _ => 0))
def Ka : Nat → List (Nat × Nat) → (Nat → Nat × Nat) → Nat → Nat × Nat
  | _, [], f => f
  | n, v :: r, f => Ka (n + 1) r (upK f n v)
theorem Ka_lt {p : Nat} (l : List (Nat × Nat)) : ∀ (n : Nat) (f : Nat → Nat × Nat), p < n → Ka n l f p = f p := by
  induction l with
  | nil => intro n f _; rfl
  | cons v r ih =>
    intro n f h
    show Ka (n + 1) r (upK f n v) p = f p
    rw [ih (n + 1) _ (by omega), upK_ne (by omega)]
theorem Ka_ge {p : Nat} (l : List (Nat × Nat)) : ∀ (n : Nat) (f : Nat → Nat × Nat), n + l.length ≤ p → Ka n l f p = f p := by
  induction l with
  | nil => intro n f _; rfl
  | cons v r ih =>
    intro n f h
    have h1 : n + (r.length + 1) ≤ p := h
    show Ka (n + 1) r (upK f n v) p = f p
    rw [ih (n + 1) _ (by omega), upK_ne (by omega)]
theorem Ka_at (l : List (Nat × Nat)) : ∀ (n k : Nat) (f : Nat → Nat × Nat), k < l.length → Ka n l f (n + k) = nthK l k := by
  induction l with
  | nil => intro n k f h; exact absurd h (Nat.not_lt_zero k)
  | cons v r ih =>
    intro n k f h
    show Ka (n + 1) r (upK f n v) (n + k) = nthK (v :: r) k
    cases k with
    | zero => exact (Ka_lt r (n + 1) (upK f n v) (Nat.lt_succ_self n)).trans upK_self
    | succ k =>
      have e : n + (k + 1) = n + 1 + k := by omega
      rw [e]
      exact ih (n + 1) k _ (Nat.lt_of_succ_lt_succ h)
theorem nthK_out {l : List (Nat × Nat)} {n : Nat} (h : l.length ≤ n) : nthK l n = (0, 0) := by
  induction l generalizing n with
  | nil => rfl
  | cons a l ih =>
    cases n with
    | zero => simp at h
    | succ n => exact ih (by simpa using h)
theorem nthN_out {l : List Nat} {n : Nat} (h : l.length ≤ n) : nthN l n = 0 := by
  induction l generalizing n with
  | nil => rfl
  | cons a l ih =>
    cases n with
    | zero => simp at h
    | succ n => exact ih (by simpa using h)
set_option maxRecDepth 100000
theorem Kz_a : Kz = Ka 200 KL (fun _ => (0, 0)) := rfl
theorem Kz_eq : Kz = K0 := by
  rw [Kz_a]
  have hl : KL.length = 232 := by decide +kernel
  funext p
  rcases Nat.lt_or_ge p 200 with h | h
  · have e1 : K0 p = (0, 0) := by
      have : Nat.ble 200 p = false := by
        cases h2 : Nat.ble 200 p with
        | false => rfl
        | true => exact absurd (Nat.le_of_ble_eq_true h2) (by omega)
      unfold K0
      rw [this]
    rw [e1, Ka_lt KL 200 _ h]
  · have e1 : K0 p = nthK KL (p - 200) := by
      have : Nat.ble 200 p = true := Nat.ble_eq_true_of_le h
      unfold K0
      rw [this]
    rw [e1]
    rcases Nat.lt_or_ge p 432 with h2 | h2
    · have := Ka_at KL 200 (p - 200) (fun _ => (0, 0)) (by omega)
      rw [show 200 + (p - 200) = p by omega] at this
      exact this
    · rw [Ka_ge KL 200 _ (by omega), nthK_out (by omega)]
def rzl : List (Nat × Nat × Nat) := [(420, 19, 431), (420, 18, 430), (420, 17, 429), (420, 15, 428), (420, 8, 427), (420, 5, 426), (420, 4, 425), (420, 3, 424), (420, 2, 423), (420, 1, 422), (287, 11, 410), (409, 17, 419), (418, 2, 420), (409, 9, 418), (409, 8, 417), (409, 7, 416), (409, 6, 415), (409, 5, 414), (409, 4, 413), (409, 2, 412), (409, 1, 411), (287, 10, 399), (398, 17, 408), (407, 2, 409), (398, 9, 407), (398, 8, 406), (398, 7, 405), (398, 6, 404), (398, 5, 403), (398, 4, 402), (398, 2, 401), (398, 1, 400), (287, 9, 388), (387, 17, 397), (396, 2, 398), (387, 9, 396), (387, 8, 395), (387, 7, 394), (387, 6, 393), (387, 5, 392), (387, 4, 391), (387, 2, 390), (387, 1, 389), (287, 8, 377), (376, 17, 386), (385, 2, 387), (376, 9, 385), (376, 8, 384), (376, 7, 383), (376, 6, 382), (376, 5, 381), (376, 4, 380), (376, 2, 379), (376, 1, 378), (287, 7, 366), (365, 17, 375), (374, 2, 376), (365, 9, 374), (365, 8, 373), (365, 7, 372), (365, 6, 371), (365, 5, 370), (365, 4, 369), (365, 2, 368), (365, 1, 367), (287, 6, 355), (354, 17, 364), (363, 2, 365), (354, 9, 363), (354, 8, 362), (354, 7, 361), (354, 6, 360), (354, 5, 359), (354, 4, 358), (354, 2, 357), (354, 1, 356), (287, 5, 344), (343, 17, 353), (352, 2, 354), (343, 9, 352), (343, 8, 351), (343, 7, 350), (343, 6, 349), (343, 5, 348), (343, 4, 347), (343, 2, 346), (343, 1, 345), (287, 4, 333), (332, 17, 342), (341, 2, 343), (332, 9, 341), (332, 8, 340), (332, 7, 339), (332, 6, 338), (332, 5, 337), (332, 4, 336), (332, 2, 335), (332, 1, 334), (287, 3, 322), (321, 17, 331), (330, 2, 332), (321, 9, 330), (321, 8, 329), (321, 7, 328), (321, 6, 327), (321, 5, 326), (321, 4, 325), (321, 2, 324), (321, 1, 323), (287, 2, 311), (310, 17, 320), (319, 2, 321), (310, 9, 319), (310, 8, 318), (310, 7, 317), (310, 6, 316), (310, 5, 315), (310, 4, 314), (310, 2, 313), (310, 1, 312), (287, 1, 300), (299, 17, 309), (308, 2, 310), (299, 9, 308), (299, 8, 307), (299, 7, 306), (299, 6, 305), (299, 5, 304), (299, 4, 303), (299, 2, 302), (299, 1, 301), (287, 0, 289), (288, 17, 298), (297, 2, 299), (288, 9, 297), (288, 8, 296), (288, 7, 295), (288, 6, 294), (288, 5, 293), (288, 4, 292), (288, 2, 291), (288, 1, 290), (200, 11, 288), (200, 9, 280), (279, 8, 287), (279, 7, 286), (279, 6, 285), (279, 5, 284), (279, 4, 283), (279, 3, 282), (279, 2, 281), (200, 8, 269), (268, 17, 278), (277, 2, 279), (268, 9, 277), (268, 8, 276), (268, 7, 275), (268, 6, 274), (268, 5, 273), (268, 4, 272), (268, 2, 271), (268, 1, 270), (200, 7, 258), (257, 17, 267), (266, 2, 268), (257, 9, 266), (257, 8, 265), (257, 7, 264), (257, 6, 263), (257, 5, 262), (257, 4, 261), (257, 2, 260), (257, 1, 259), (200, 6, 255), (254, 1, 257), (254, 0, 256), (200, 5, 247), (246, 8, 254), (246, 7, 253), (246, 6, 252), (246, 5, 251), (246, 4, 250), (246, 3, 249), (246, 2, 248), (200, 4, 236), (235, 17, 245), (244, 2, 246), (235, 9, 244), (235, 8, 243), (235, 7, 242), (235, 6, 241), (235, 5, 240), (235, 4, 239), (235, 2, 238), (235, 1, 237), (200, 2, 221), (220, 3, 235), (220, 2, 227), (226, 8, 234), (226, 7, 233), (226, 6, 232), (226, 5, 231), (226, 4, 230), (226, 3, 229), (226, 2, 228), (220, 0, 222), (221, 3, 226), (221, 2, 225), (221, 1, 224), (221, 0, 223), (200, 1, 204), (203, 2, 210), (209, 17, 219), (218, 2, 220), (209, 9, 218), (209, 8, 217), (209, 7, 216), (209, 6, 215), (209, 5, 214), (209, 4, 213), (209, 2, 212), (209, 1, 211), (203, 0, 205), (204, 3, 209), (204, 2, 208), (204, 1, 207), (204, 0, 206), (200, 0, 202), (201, 0, 203)]
def Rl (l : List (Nat × Nat × Nat)) : Nat → Nat → Nat := List.foldr (fun e f => up2 f e.1 e.2.1 e.2.2) (fun _ _ => 0) l
theorem Rz_l : Rz = Rl rzl := rfl
theorem Rl_out {p k : Nat} (l : List (Nat × Nat × Nat)) (h : ¬ ∃ e ∈ l, e.1 = p ∧ e.2.1 = k) : Rl l p k = 0 := by
  induction l with
  | nil => rfl
  | cons a l ih =>
    have h1 : ¬ (a.1 = p ∧ a.2.1 = k) := fun z => h ⟨a, List.mem_cons_self, z⟩
    show up2 (Rl l) a.1 a.2.1 a.2.2 p k = 0
    rw [up2_ne (by omega)]
    exact ih fun ⟨e, he, z⟩ => h ⟨e, List.mem_cons_of_mem _ he, z⟩
theorem rcIn_or {p k : Nat} (l : List (Nat × List Nat)) : rcIn p k l = 0 ∨ ∃ e ∈ l, e.1 = p ∧ k < e.2.length := by
  induction l with
  | nil => exact Or.inl rfl
  | cons a l ih =>
    cases hb : Nat.beq a.1 p with
    | false =>
      simp only [rcIn, hb]
      rcases ih with h | ⟨e, he, z⟩
      · exact Or.inl h
      · exact Or.inr ⟨e, List.mem_cons_of_mem _ he, z⟩
    | true =>
      simp only [rcIn, hb]
      rcases Nat.lt_or_ge k a.2.length with h | h
      · exact Or.inr ⟨a, List.mem_cons_self, Nat.eq_of_beq_eq_true hb, h⟩
      · exact Or.inl (nthN_out h)
def Rb (p k : Nat) : List (Nat × Nat × Nat) → Nat
  | [] => 0
  | e :: r => match Nat.beq e.1 p with
    | true => match Nat.beq e.2.1 k with
      | true => e.2.2
      | false => Rb p k r
    | false => Rb p k r
theorem Rb_eq {p k : Nat} (l : List (Nat × Nat × Nat)) : Rl l p k = Rb p k l := by
  induction l with
  | nil => rfl
  | cons a l ih =>
    show up2 (Rl l) a.1 a.2.1 a.2.2 p k = Rb p k (a :: l)
    cases h1 : Nat.beq a.1 p with
    | false =>
      have n1 : p ≠ a.1 := fun z => by rw [z, Nat.beq_refl] at h1; exact Bool.noConfusion h1
      rw [up2_ne (Or.inl n1), ih]
      simp only [Rb, h1]
    | true =>
      have n1 : a.1 = p := Nat.eq_of_beq_eq_true h1
      cases h2 : Nat.beq a.2.1 k with
      | false =>
        have n2 : k ≠ a.2.1 := fun z => by rw [z, Nat.beq_refl] at h2; exact Bool.noConfusion h2
        rw [up2_ne (Or.inr n2), ih]
        simp only [Rb, h1, h2]
      | true =>
        have n2 : a.2.1 = k := Nat.eq_of_beq_eq_true h2
        subst n1
        subst n2
        rw [up2_at]
        simp only [Rb, h1, h2]
def rlA : List (Nat × Nat × Nat) → Bool
  | [] => true
  | e :: r => match Nat.beq (Rb e.1 e.2.1 rzl) (Rc e.1 e.2.1) with
    | true => rlA r
    | false => false
theorem rlA_at {l : List (Nat × Nat × Nat)} (h : rlA l = true) : ∀ e ∈ l, Rb e.1 e.2.1 rzl = Rc e.1 e.2.1 := by
  induction l with
  | nil => intro e he; exact absurd he List.not_mem_nil
  | cons a l ih =>
    cases hb : Nat.beq (Rb a.1 a.2.1 rzl) (Rc a.1 a.2.1) with
    | false => simp only [rlA, hb] at h; exact Bool.noConfusion h
    | true =>
      simp only [rlA, hb] at h
      exact List.forall_mem_cons.mpr ⟨Nat.eq_of_beq_eq_true hb, ih h⟩
def rlK (p : Nat) : Nat → Bool
  | 0 => true
  | n + 1 => match Nat.beq (Rb p n rzl) (Rc p n) with
    | true => rlK p n
    | false => false
theorem rlK_at {p : Nat} : ∀ {n : Nat}, rlK p n = true → ∀ k, k < n → Rb p k rzl = Rc p k := by
  intro n
  induction n with
  | zero => intro _ k hk; exact absurd hk (Nat.not_lt_zero k)
  | succ n ih =>
    intro h k hk
    cases hb : Nat.beq (Rb p n rzl) (Rc p n) with
    | false => simp only [rlK, hb] at h; exact Bool.noConfusion h
    | true =>
      simp only [rlK, hb] at h
      rcases Nat.lt_or_ge k n with h2 | h2
      · exact ih h k h2
      · obtain rfl : k = n := by omega
        exact Nat.eq_of_beq_eq_true hb
def rlB : List (Nat × List Nat) → Bool
  | [] => true
  | e :: r => match rlK e.1 e.2.length with
    | true => rlB r
    | false => false
theorem rlB_at {l : List (Nat × List Nat)} (h : rlB l = true) : ∀ e ∈ l, ∀ k, k < e.2.length → Rb e.1 k rzl = Rc e.1 k := by
  induction l with
  | nil => intro e he; exact absurd he List.not_mem_nil
  | cons a l ih =>
    cases hb : rlK a.1 a.2.length with
    | false => simp only [rlB, hb] at h; exact Bool.noConfusion h
    | true =>
      simp only [rlB, hb] at h
      exact List.forall_mem_cons.mpr ⟨rlK_at hb, ih h⟩
theorem Rl_a : ∀ e ∈ rzl, Rl rzl e.1 e.2.1 = Rc e.1 e.2.1 := fun e he => (Rb_eq rzl).trans (rlA_at (show rlA rzl = true by decide +kernel) e he)
theorem Rl_b : ∀ e ∈ RL0, ∀ k, k < e.2.length → Rl rzl e.1 k = Rc e.1 k := fun e he k hk => (Rb_eq rzl).trans (rlB_at (show rlB RL0 = true by decide +kernel) e he k hk)
theorem Rz_Rc : Rz = Rc := by
  rw [Rz_l]
  funext p k
  by_cases h : ∃ e ∈ rzl, e.1 = p ∧ e.2.1 = k
  · obtain ⟨e, he, rfl, rfl⟩ := h
    exact Rl_a e he
  · rw [Rl_out rzl h]
    rcases rcIn_or (p := p) (k := k) RL0 with h1 | ⟨e, he, rfl, h2⟩
    · exact h1.symm
    · rw [← Rl_b e he k h2, Rl_out rzl h]
theorem Rc_w : Rc 204 9 = 0 ∧ Rc 221 9 = 0 := by decide +kernel
theorem Rz_eq : Rz = Rw 0 0 := by
  rw [Rz_Rc]
  funext p k
  by_cases hk : k = 9
  · subst hk
    by_cases h1 : p = 204
    · subst h1; simp [Rw, Rc_w.1]
    · by_cases h2 : p = 221
      · subst h2; simp [Rw, Rc_w.2]
      · have e1 : Nat.beq p 204 = false := beqF h1
        have e2 : Nat.beq p 221 = false := beqF h2
        simp [Rw, e1, e2]
  · have : Nat.beq k 9 = false := beqF hk
    simp [Rw, this]
end
section
/-! ===== what of the heap counts; copies ===== -/
def mI (K : Nat → Nat × Nat) (p k : Nat) : Bool := match K p with
  | (0, _) => false
  | (1, ci) => match aC[ci]? with
    | some r => Nat.blt k r.1.2.2 && isIntTy (r.2 k)
    | none => false
  | (_ + 2, n) => Nat.blt k n
theorem arrV_congr {c : ClassId} {n : Nat} {f g : Nat → Value} (h : ∀ j, j < n → f j = g j) : arrV c n f = arrV c n g := by
  unfold arrV
  congr 1
  congr 1
  funext j
  exact h j.val j.isLt
theorem blt_of {a b : Nat} (h : a < b) : Nat.blt a b = true := Nat.ble_eq_true_of_le h
theorem Rep.congrI {G : aG} {K : Nat → Nat × Nat} {I I' : Nat → Nat → Int32} {L : Nat → Nat → Int64} {R : Nat → Nat → Nat} {t : Nat} {H : Heap} (hR : Rep G (K, I, L, R, t) H) (h : ∀ p k, mI K p k = true → I' p k = I p k) : Rep G (K, I', L, R, t) H := by
  refine ⟨fun p => ?_, hR.2⟩
  have q := hR.1 p
  have hh := h p
  unfold mI at hh
  unfold cellA at q ⊢
  dsimp only at q ⊢
  rcases hk : K p with ⟨a, b⟩
  rw [hk] at q hh
  rcases a with _ | _ | a
  · trivial
  · obtain ⟨r, h1, cell, h2, h3, h4, h5⟩ := q
    refine ⟨r, h1, cell, h2, h3, h4, fun k hkk => ?_⟩
    rw [h5 k hkk]
    dsimp only at hh
    rw [h1] at hh
    cases hty : isIntTy (r.2 k) with
    | true => rw [fv_int hty, fv_int hty, hh k (by dsimp only; rw [hty, blt_of hkk]; rfl)]
    | false =>
      unfold fv
      cases hr : r.2 k <;> first | rfl | (rw [hr] at hty; cases hty)
  · have e : arrV (G.2.1 (a + 2)) b (fun j => ev G I' L R (a + 2) p j) = arrV (G.2.1 (a + 2)) b (fun j => ev G I L R (a + 2) p j) := arrV_congr fun j hj => by
      unfold ev
      rw [hh j (blt_of hj)]
    show H[ad G p]? = some (arrV _ _ _)
    rw [e]
    exact q
section A41
variable {S : aS} {C : aM} {d : Nat} {Q : Option Value → aH → Prop} {X : String → aH → Prop} {k1 k2 pc np tgt : Nat} {w : Int32} {ls ls' : List (Option Value)} {st st' : List Value} {h : aH} {ins : Instr}
variable {K : Nat → Nat × Nat} {I I' : Nat → Nat → Int32} {L : Nat → Nat → Int64} {R : Nat → Nat → Nat} {t : Nat}
/-- a heap in which all that counts is the same -/
theorem a_congr (hI : ∀ p k, mI K p k = true → I' p k = I p k) (kk : AW S C d Q X k1 k2 pc ls st (K, I', L, R, t)) : AW S C d Q X k1 k2 pc ls st (K, I, L, R, t) := by
  intro p l e s m args below meth c H la locs cells slots mc ms G CC hS hL hR hF g1 g2
  exact kk p l e s m args below meth c H la locs cells slots mc ms G CC hS hL (hR.congrI hI) hF g1 g2
/-- a loop by an invariant of its own -/
theorem a_inv {n : Nat} (P : Nat → List (Option Value) → aH → Prop) (h0 : P n ls h) (hs : ∀ j ls h, P j ls h → (∀ i ls' h', i < j → P i ls' h' → AW S C d Q X k1 k2 pc ls' st h') → AW S C d Q X k1 k2 pc ls st h) : AW S C d Q X k1 k2 pc ls st h := by
  induction n using Nat.strongRecOn generalizing ls h with
  | _ n ih => exact hs n ls h h0 fun i ls' h' hi hp => ih i hi hp
theorem a_getiv {idx ci k p : Nat} {v : Int32} (hC : look C pc = some (.getfield idx, np, tgt, w)) (hf : LFi C.1.cls idx ci k) (hK : K p = (1, ci)) (hv : I p k = v) (kk : AW S C d Q X k1 k2 np ls (.int v :: st) (K, I, L, R, t)) : AW S C d Q X k1 k2 pc ls (.ref p :: st) (K, I, L, R, t) := by
  subst hv
  exact a_geti hC hf hK kk
theorem a_ialdv {p n : Nat} {i v : Int32} (hC : look C pc = some (.iaload, np, tgt, w)) (hK : K p = (2, n)) (hi : inI i n) (hv : I p i.toNatClampNeg = v) (kk : AW S C d Q X k1 k2 np ls (.int v :: st) (K, I, L, R, t)) : AW S C d Q X k1 k2 pc ls (.int i :: .ref p :: st) (K, I, L, R, t) := by
  subst hv
  exact a_iald hC hK hi kk
theorem a_iastv {p n k : Nat} {i x : Int32} (hC : look C pc = some (.iastore, np, tgt, w)) (hK : K p = (2, n)) (hi : inI i n) (hk : i.toNatClampNeg = k) (kk : AW S C d Q X k1 k2 np ls st (K, up2 I p k x, L, R, t)) : AW S C d Q X k1 k2 pc ls (.int x :: .int i :: .ref p :: st) (K, I, L, R, t) := by
  subst hk
  exact a_iast hC hK hi kk
theorem a_bastv {p n k : Nat} {i x : Int32} (hC : look C pc = some (.bastore, np, tgt, w)) (hK : K p = (3, n)) (hi : inI i n) (hx : x.toInt8.toInt32 = x) (hk : i.toNatClampNeg = k) (kk : AW S C d Q X k1 k2 np ls st (K, up2 I p k x, L, R, t)) : AW S C d Q X k1 k2 pc ls (.int x :: .int i :: .ref p :: st) (K, I, L, R, t) := by
  subst hk
  exact a_bast hC hK hi hx kk
theorem a_baldv {p n : Nat} {i v : Int32} (hC : look C pc = some (.baload, np, tgt, w)) (hK : K p = (3, n)) (hi : inI i n) (hv : I p i.toNatClampNeg = v) (kk : AW S C d Q X k1 k2 np ls (.int v :: st) (K, I, L, R, t)) : AW S C d Q X k1 k2 pc ls (.int i :: .ref p :: st) (K, I, L, R, t) := by
  subst hv
  exact a_bald hC hK hi kk
theorem a_laldv {p n : Nat} {i : Int32} {v : Int64} (hC : look C pc = some (.laload, np, tgt, w)) (hK : K p = (4, n)) (hi : inI i n) (hv : L p i.toNatClampNeg = v) (kk : AW S C d Q X k1 k2 np ls (.long v :: st) (K, I, L, R, t)) : AW S C d Q X k1 k2 pc ls (.int i :: .ref p :: st) (K, I, L, R, t) := by
  subst hv
  exact a_lald hC hK hi kk
theorem a_lastv {p n k : Nat} {i : Int32} {x : Int64} (hC : look C pc = some (.lastore, np, tgt, w)) (hK : K p = (4, n)) (hi : inI i n) (hk : i.toNatClampNeg = k) (kk : AW S C d Q X k1 k2 np ls st (K, I, up2 L p k x, R, t)) : AW S C d Q X k1 k2 pc ls (.long x :: .int i :: .ref p :: st) (K, I, L, R, t) := by
  subst hk
  exact a_last hC hK hi kk
theorem a_top {x y : Int32} (e : x = y) (kk : AW S C d Q X k1 k2 pc ls (.int y :: st) h) : AW S C d Q X k1 k2 pc ls (.int x :: st) h := by
  rw [e]
  exact kk
theorem a_pop1 {st0 : List Value} (e : st0 = st) (kk : AW S C d Q X k1 k2 pc ls st h) : AW S C d Q X k1 k2 pc ls st0 h := by
  rw [e]
  exact kk
end A41
theorem i2b_id (x : Int32) : x.toInt8.toInt32.toInt8.toInt32 = x.toInt8.toInt32 := by simp
theorem upr_row {α : Type} {f : Nat → α} {p q : Nat} {r : α} (h : q ≠ p) : upr f p r q = f q := by simp [upr, h]
theorem upr_at {α : Type} {f : Nat → α} {p : Nat} {r : α} : upr f p r p = r := by simp [upr]
theorem stp_apart : ∀ a ∈ stps, ∀ b ∈ stps, a ≠ b → a + 11 ≤ b ∨ b + 11 ≤ a := by decide +kernel
theorem lwp_apart : ∀ a ∈ lwps, ∀ b ∈ lwps, a ≠ b → a + 9 ≤ b ∨ b + 9 ≤ a := by decide +kernel
def cpS (I : Nat → Nat → Int32) (a b m : Nat) : Nat → Nat → Int32 := fun q => if a ≤ q ∧ q < a + m then I (b + (q - a)) else I q
theorem cpS_out {I : Nat → Nat → Int32} {a b m q : Nat} (h : ¬ (a ≤ q ∧ q < a + m)) : cpS I a b m q = I q := if_neg h
theorem cpS_in {I : Nat → Nat → Int32} {a b m i : Nat} (h : i < m) : cpS I a b m (a + i) = I (b + i) := by
  unfold cpS
  rw [if_pos ⟨by omega, by omega⟩]
  congr 1
  omega
theorem cpS_in0 {I : Nat → Nat → Int32} {a b m : Nat} (h : 0 < m) : cpS I a b m a = I b := cpS_in (i := 0) h
theorem cpS_all {I : Nat → Nat → Int32} {a b : Nat} (h : a + 11 ≤ b ∨ b + 11 ≤ a) : cpS (cpS I a b 9) (a + 9) (b + 9) 2 = cpS I a b 11 := by
  funext q
  by_cases h1 : a ≤ q ∧ q < a + 11
  · by_cases h2 : q < a + 9
    · rw [cpS_out (by omega)]
      unfold cpS
      rw [if_pos (by omega), if_pos (by omega)]
    · have e : cpS (cpS I a b 9) (a + 9) (b + 9) 2 q = cpS I a b 9 (b + 9 + (q - (a + 9))) := if_pos (by omega)
      rw [e, cpS_out (by omega)]
      unfold cpS
      rw [if_pos (by omega)]
      congr 1
      omega
  · rw [cpS_out (by omega), cpS_out (by omega), cpS_out (by omega)]
def cpL (I : Nat → Nat → Int32) (a b : Nat) : Nat → Nat → Int32 := up2 (cpS I (a + 1) (b + 1) 5) a 0 (I b 0)
/-- the first j of a row -/
def cpP (I : Nat → Nat → Int32) (p q j : Nat) : Nat → Nat → Int32 := upr I p (fun k => if k < j then I q k else I p k)
theorem cpP_0 {I : Nat → Nat → Int32} {p q : Nat} : cpP I p q 0 = I := by
  funext x
  unfold cpP upr
  split
  · next h => subst h; funext k; simp
  · rfl
theorem cpP_src {I : Nat → Nat → Int32} {p q j : Nat} (h : q ≠ p) : cpP I p q j q = I q := upr_row h
theorem cpP_out {I : Nat → Nat → Int32} {p q j x : Nat} (h : x ≠ p) : cpP I p q j x = I x := upr_row h
theorem cpP_succ {I : Nat → Nat → Int32} {p q j : Nat} : up2 (cpP I p q j) p j (I q j) = cpP I p q (j + 1) := by
  funext x k
  by_cases hx : x = p
  · subst hx
    by_cases hk : k = j
    · subst hk
      rw [up2_at]
      simp [cpP, upr]
    · rw [up2_ne (Or.inr hk)]
      simp only [cpP, upr, if_pos]
      by_cases h : k < j
      · rw [if_pos h, if_pos (by omega)]
      · rw [if_neg h, if_neg (by omega)]
  · rw [up2_row hx, cpP_out hx, cpP_out hx]
theorem a_iv10 {S : aS} {C : aM} {d : Nat} {Q : Option Value → aH → Prop} {X : String → aH → Prop} {k1 k2 pc np tgt : Nat} {w : Int32} {r : List (Option Value)} {st : List Value} {h : aH} {a0 a1 a2 a3 a4 a5 a6 a7 a8 a9 : Option Value} {n : Int} {x y : Int32} (hC : look C pc = some (.iinc 10 n, np, tgt, w)) (hl : notLong a9 = true) (hn : Nat.ble 11 C.2.2.1 = true) (e : x + w = y) (k : AW S C d Q X k1 k2 np (a0 :: a1 :: a2 :: a3 :: a4 :: a5 :: a6 :: a7 :: a8 :: a9 :: some (.int y) :: r) st h) : AW S C d Q X k1 k2 pc (a0 :: a1 :: a2 :: a3 :: a4 :: a5 :: a6 :: a7 :: a8 :: a9 :: some (.int x) :: r) st h := a_i10 hC hl hn (by rw [e]; exact k)
theorem a_iv9 {S : aS} {C : aM} {d : Nat} {Q : Option Value → aH → Prop} {X : String → aH → Prop} {k1 k2 pc np tgt : Nat} {w : Int32} {r : List (Option Value)} {st : List Value} {h : aH} {a0 a1 a2 a3 a4 a5 a6 a7 a8 : Option Value} {n : Int} {x y : Int32} (hC : look C pc = some (.iinc 9 n, np, tgt, w)) (hl : notLong a8 = true) (hn : Nat.ble 10 C.2.2.1 = true) (e : x + w = y) (k : AW S C d Q X k1 k2 np (a0 :: a1 :: a2 :: a3 :: a4 :: a5 :: a6 :: a7 :: a8 :: some (.int y) :: r) st h) : AW S C d Q X k1 k2 pc (a0 :: a1 :: a2 :: a3 :: a4 :: a5 :: a6 :: a7 :: a8 :: some (.int x) :: r) st h := a_i9 hC hl hn (by rw [e]; exact k)
theorem a_iv8 {S : aS} {C : aM} {d : Nat} {Q : Option Value → aH → Prop} {X : String → aH → Prop} {k1 k2 pc np tgt : Nat} {w : Int32} {r : List (Option Value)} {st : List Value} {h : aH} {a0 a1 a2 a3 a4 a5 a6 a7 : Option Value} {n : Int} {x y : Int32} (hC : look C pc = some (.iinc 8 n, np, tgt, w)) (hl : notLong a7 = true) (hn : Nat.ble 9 C.2.2.1 = true) (e : x + w = y) (k : AW S C d Q X k1 k2 np (a0 :: a1 :: a2 :: a3 :: a4 :: a5 :: a6 :: a7 :: some (.int y) :: r) st h) : AW S C d Q X k1 k2 pc (a0 :: a1 :: a2 :: a3 :: a4 :: a5 :: a6 :: a7 :: some (.int x) :: r) st h := a_i8 hC hl hn (by rw [e]; exact k)
theorem a_iv7 {S : aS} {C : aM} {d : Nat} {Q : Option Value → aH → Prop} {X : String → aH → Prop} {k1 k2 pc np tgt : Nat} {w : Int32} {r : List (Option Value)} {st : List Value} {h : aH} {a0 a1 a2 a3 a4 a5 a6 : Option Value} {n : Int} {x y : Int32} (hC : look C pc = some (.iinc 7 n, np, tgt, w)) (hl : notLong a6 = true) (hn : Nat.ble 8 C.2.2.1 = true) (e : x + w = y) (k : AW S C d Q X k1 k2 np (a0 :: a1 :: a2 :: a3 :: a4 :: a5 :: a6 :: some (.int y) :: r) st h) : AW S C d Q X k1 k2 pc (a0 :: a1 :: a2 :: a3 :: a4 :: a5 :: a6 :: some (.int x) :: r) st h := a_i7 hC hl hn (by rw [e]; exact k)
theorem a_iv6 {S : aS} {C : aM} {d : Nat} {Q : Option Value → aH → Prop} {X : String → aH → Prop} {k1 k2 pc np tgt : Nat} {w : Int32} {r : List (Option Value)} {st : List Value} {h : aH} {a0 a1 a2 a3 a4 a5 : Option Value} {n : Int} {x y : Int32} (hC : look C pc = some (.iinc 6 n, np, tgt, w)) (hl : notLong a5 = true) (hn : Nat.ble 7 C.2.2.1 = true) (e : x + w = y) (k : AW S C d Q X k1 k2 np (a0 :: a1 :: a2 :: a3 :: a4 :: a5 :: some (.int y) :: r) st h) : AW S C d Q X k1 k2 pc (a0 :: a1 :: a2 :: a3 :: a4 :: a5 :: some (.int x) :: r) st h := a_i6 hC hl hn (by rw [e]; exact k)
theorem a_iv5 {S : aS} {C : aM} {d : Nat} {Q : Option Value → aH → Prop} {X : String → aH → Prop} {k1 k2 pc np tgt : Nat} {w : Int32} {r : List (Option Value)} {st : List Value} {h : aH} {a0 a1 a2 a3 a4 : Option Value} {n : Int} {x y : Int32} (hC : look C pc = some (.iinc 5 n, np, tgt, w)) (hl : notLong a4 = true) (hn : Nat.ble 6 C.2.2.1 = true) (e : x + w = y) (k : AW S C d Q X k1 k2 np (a0 :: a1 :: a2 :: a3 :: a4 :: some (.int y) :: r) st h) : AW S C d Q X k1 k2 pc (a0 :: a1 :: a2 :: a3 :: a4 :: some (.int x) :: r) st h := a_i5 hC hl hn (by rw [e]; exact k)
theorem a_iv4 {S : aS} {C : aM} {d : Nat} {Q : Option Value → aH → Prop} {X : String → aH → Prop} {k1 k2 pc np tgt : Nat} {w : Int32} {r : List (Option Value)} {st : List Value} {h : aH} {a0 a1 a2 a3 : Option Value} {n : Int} {x y : Int32} (hC : look C pc = some (.iinc 4 n, np, tgt, w)) (hl : notLong a3 = true) (hn : Nat.ble 5 C.2.2.1 = true) (e : x + w = y) (k : AW S C d Q X k1 k2 np (a0 :: a1 :: a2 :: a3 :: some (.int y) :: r) st h) : AW S C d Q X k1 k2 pc (a0 :: a1 :: a2 :: a3 :: some (.int x) :: r) st h := a_i4 hC hl hn (by rw [e]; exact k)
theorem a_iv3 {S : aS} {C : aM} {d : Nat} {Q : Option Value → aH → Prop} {X : String → aH → Prop} {k1 k2 pc np tgt : Nat} {w : Int32} {r : List (Option Value)} {st : List Value} {h : aH} {a0 a1 a2 : Option Value} {n : Int} {x y : Int32} (hC : look C pc = some (.iinc 3 n, np, tgt, w)) (hl : notLong a2 = true) (hn : Nat.ble 4 C.2.2.1 = true) (e : x + w = y) (k : AW S C d Q X k1 k2 np (a0 :: a1 :: a2 :: some (.int y) :: r) st h) : AW S C d Q X k1 k2 pc (a0 :: a1 :: a2 :: some (.int x) :: r) st h := a_i3 hC hl hn (by rw [e]; exact k)
theorem a_iv2 {S : aS} {C : aM} {d : Nat} {Q : Option Value → aH → Prop} {X : String → aH → Prop} {k1 k2 pc np tgt : Nat} {w : Int32} {r : List (Option Value)} {st : List Value} {h : aH} {a0 a1 : Option Value} {n : Int} {x y : Int32} (hC : look C pc = some (.iinc 2 n, np, tgt, w)) (hl : notLong a1 = true) (hn : Nat.ble 3 C.2.2.1 = true) (e : x + w = y) (k : AW S C d Q X k1 k2 np (a0 :: a1 :: some (.int y) :: r) st h) : AW S C d Q X k1 k2 pc (a0 :: a1 :: some (.int x) :: r) st h := a_i2 hC hl hn (by rw [e]; exact k)
theorem a_iv1 {S : aS} {C : aM} {d : Nat} {Q : Option Value → aH → Prop} {X : String → aH → Prop} {k1 k2 pc np tgt : Nat} {w : Int32} {r : List (Option Value)} {st : List Value} {h : aH} {a0 : Option Value} {n : Int} {x y : Int32} (hC : look C pc = some (.iinc 1 n, np, tgt, w)) (hl : notLong a0 = true) (hn : Nat.ble 2 C.2.2.1 = true) (e : x + w = y) (k : AW S C d Q X k1 k2 np (a0 :: some (.int y) :: r) st h) : AW S C d Q X k1 k2 pc (a0 :: some (.int x) :: r) st h := a_i1 hC hl hn (by rw [e]; exact k)
theorem a_iv0 {S : aS} {C : aM} {d : Nat} {Q : Option Value → aH → Prop} {X : String → aH → Prop} {k1 k2 pc np tgt : Nat} {w : Int32} {r : List (Option Value)} {st : List Value} {h : aH} {n : Int} {x y : Int32} (hC : look C pc = some (.iinc 0 n, np, tgt, w)) (hn : Nat.ble 1 C.2.2.1 = true) (e : x + w = y) (k : AW S C d Q X k1 k2 np (some (.int y) :: r) st h) : AW S C d Q X k1 k2 pc (some (.int x) :: r) st h := a_i0 hC hn (by rw [e]; exact k)
set_option maxRecDepth 100000
theorem sp_X11_copyRow {S : aS} {I : Nat → Nat → Int32} {L : Nat → Nat → Int64} {w1 w2 t : Nat} {p q n : Nat} (h1 : K0 p = (2, n)) (h2 : K0 q = (2, n)) {f : Nat → Int32} (hf : I p = f) : SpE S m_X11_copyRow 12 [.ref p, .ref q] (hp I L w1 w2 t) none (hp (upr I q f) L w1 w2 t) := by
  refine SpE_of ok_X11_copyRow rfl rfl ?_
  show AW S m_X11_copyRow 12 _ _ 0 0 0 [some (.ref p), some (.ref q)] [] (hp I L w1 w2 t)
  refine a_l0 rfl rfl rfl ?_
  refine a_s rfl rfl ?_
  refine a_l1 rfl rfl rfl ?_
  refine a_s rfl rfl ?_
  refine a_l0 rfl rfl rfl ?_
  refine a_len rfl h1 rfl rfl ?_
  refine a_l1 rfl rfl rfl ?_
  refine a_len rfl h2 rfl rfl ?_
  refine a_min rfl lX11_350 mj_min rfl rfl ?_
  rw [ite_self]
  refine a_copy rfl lX11_398 ac_1 h1 h2 (by decide) (by decide) (nI_pos (K0_lt h1)) (by rw [nI_clamp (K0_lt h1)]; simp) (by rw [nI_clamp (K0_lt h1)]; simp) rfl rfl ?_
  refine a_congr (I' := upr I q f) (fun x k hm => ?_) ?_
  · by_cases hx : x = q
    · subst hx
      rw [upr_at, upr_at]
      have hk : k < n := by
        unfold mI at hm
        rw [h2] at hm
        exact Nat.le_of_ble_eq_true hm
      unfold va_cpy
      rw [nI_clamp (K0_lt h1), if_pos ⟨by simp, by simpa using hk⟩, hf]
      simp
    · rw [upr_row hx, upr_row hx]
  refine a_vret rfl rfl ⟨rfl, rfl⟩
theorem sp_X5_copyFrom {S : aS} {I : Nat → Nat → Int32} {L : Nat → Nat → Int64} {w1 w2 t : Nat} {a b : Nat} (ha : stp a) (hb : stp b) (hne : a ≠ b) : SpE S m_X5_copyFrom 13 [.ref a, .ref b] (hp I L w1 w2 t) none (hp (cpS I a b 9) L w1 w2 t) := by
  refine SpE_of ok_X5_copyFrom rfl rfl ?_
  show AW S m_X5_copyFrom 13 _ _ 0 0 0 [some (.ref a), some (.ref b)] [] (hp I L w1 w2 t)
  have hd := stp_apart a ha b hb hne
  refine a_l0 rfl rfl rfl ?_
  refine a_l1 rfl rfl rfl ?_
  refine a_getiv (v := I b 0) rfl gfX5_56_5 (kS0 hb) (by simp (disch := omega) only [up2_row, upr_row]) ?_
  refine a_puti rfl pfX5_56_5 (kS0 ha) ?_
  refine a_l1 rfl rfl rfl ?_
  refine a_getq rfl gfX5_9_5 (kS0 hb) (rS1 hb) ?_
  refine a_l0 rfl rfl rfl ?_
  refine a_getq rfl gfX5_9_5 (kS0 ha) (rS1 ha) ?_
  refine a_eSN0 rfl lX5_59 mo_X11_copyRow (sp_X11_copyRow (f := I (b + 1)) (kS1 hb) (kS1 ha) (by simp (disch := omega) only [up2_row, upr_row])) rfl rfl rfl rfl ?_
  refine a_l1 rfl rfl rfl ?_
  refine a_getq rfl gfX5_15_5 (kS0 hb) (rS2 hb) ?_
  refine a_l0 rfl rfl rfl ?_
  refine a_getq rfl gfX5_15_5 (kS0 ha) (rS2 ha) ?_
  refine a_eSN0 rfl lX5_59 mo_X11_copyRow (sp_X11_copyRow (f := I (b + 2)) (kS2 hb) (kS2 ha) (by simp (disch := omega) only [up2_row, upr_row])) rfl rfl rfl rfl ?_
  refine a_l0 rfl rfl rfl ?_
  refine a_l1 rfl rfl rfl ?_
  refine a_getiv (v := I b 3) rfl gfX5_63_5 (kS0 hb) (by simp (disch := omega) only [up2_row, upr_row]) ?_
  refine a_puti rfl pfX5_63_5 (kS0 ha) ?_
  refine a_l1 rfl rfl rfl ?_
  refine a_getq rfl gfX5_18_5 (kS0 hb) (rS4 hb) ?_
  refine a_l0 rfl rfl rfl ?_
  refine a_getq rfl gfX5_18_5 (kS0 ha) (rS4 ha) ?_
  refine a_eSN0 rfl lX5_59 mo_X11_copyRow (sp_X11_copyRow (f := I (b + 3)) (kS3 hb) (kS3 ha) (by simp (disch := omega) only [up2_row, upr_row])) rfl rfl rfl rfl ?_
  refine a_l1 rfl rfl rfl ?_
  refine a_getq rfl gfX5_21_5 (kS0 hb) (rS5 hb) ?_
  refine a_l0 rfl rfl rfl ?_
  refine a_getq rfl gfX5_21_5 (kS0 ha) (rS5 ha) ?_
  refine a_eSN0 rfl lX5_59 mo_X11_copyRow (sp_X11_copyRow (f := I (b + 4)) (kS4 hb) (kS4 ha) (by simp (disch := omega) only [up2_row, upr_row])) rfl rfl rfl rfl ?_
  refine a_l1 rfl rfl rfl ?_
  refine a_getq rfl gfX5_24_5 (kS0 hb) (rS6 hb) ?_
  refine a_l0 rfl rfl rfl ?_
  refine a_getq rfl gfX5_24_5 (kS0 ha) (rS6 ha) ?_
  refine a_eSN0 rfl lX5_59 mo_X11_copyRow (sp_X11_copyRow (f := I (b + 5)) (kS5 hb) (kS5 ha) (by simp (disch := omega) only [up2_row, upr_row])) rfl rfl rfl rfl ?_
  refine a_l1 rfl rfl rfl ?_
  refine a_getq rfl gfX5_27_5 (kS0 hb) (rS7 hb) ?_
  refine a_l0 rfl rfl rfl ?_
  refine a_getq rfl gfX5_27_5 (kS0 ha) (rS7 ha) ?_
  refine a_eSN0 rfl lX5_59 mo_X11_copyRow (sp_X11_copyRow (f := I (b + 6)) (kS6 hb) (kS6 ha) (by simp (disch := omega) only [up2_row, upr_row])) rfl rfl rfl rfl ?_
  refine a_l1 rfl rfl rfl ?_
  refine a_getq rfl gfX5_30_5 (kS0 hb) (rS8 hb) ?_
  refine a_l0 rfl rfl rfl ?_
  refine a_getq rfl gfX5_30_5 (kS0 ha) (rS8 ha) ?_
  refine a_eSN0 rfl lX5_59 mo_X11_copyRow (sp_X11_copyRow (f := I (b + 7)) (kS7 hb) (kS7 ha) (by simp (disch := omega) only [up2_row, upr_row])) rfl rfl rfl rfl ?_
  refine a_l1 rfl rfl rfl ?_
  refine a_getq rfl gfX5_33_5 (kS0 hb) (rS9 hb) ?_
  refine a_l0 rfl rfl rfl ?_
  refine a_getq rfl gfX5_33_5 (kS0 ha) (rS9 ha) ?_
  refine a_eSN0 rfl lX5_59 mo_X11_copyRow (sp_X11_copyRow (f := I (b + 8)) (kS8 hb) (kS8 ha) (by simp (disch := omega) only [up2_row, upr_row])) rfl rfl rfl rfl ?_
  refine a_l0 rfl rfl rfl ?_
  refine a_l1 rfl rfl rfl ?_
  refine a_getiv (v := I b 10) rfl gfX5_36_5 (kS0 hb) (by simp (disch := omega) only [up2_row, upr_row]) ?_
  refine a_puti rfl pfX5_36_5 (kS0 ha) ?_
  refine a_l0 rfl rfl rfl ?_
  refine a_l1 rfl rfl rfl ?_
  refine a_getiv (v := I b 11) rfl gfX5_66_5 (kS0 hb) (by simp (disch := omega) only [up2_row, upr_row]) ?_
  refine a_puti rfl pfX5_66_5 (kS0 ha) ?_
  refine a_l0 rfl rfl rfl ?_
  refine a_l1 rfl rfl rfl ?_
  refine a_getiv (v := I b 12) rfl gfX5_69_5 (kS0 hb) (by simp (disch := omega) only [up2_row, upr_row]) ?_
  refine a_puti rfl pfX5_69_5 (kS0 ha) ?_
  refine a_l0 rfl rfl rfl ?_
  refine a_l1 rfl rfl rfl ?_
  refine a_getiv (v := I b 13) rfl gfX5_40_5 (kS0 hb) (by simp (disch := omega) only [up2_row, upr_row]) ?_
  refine a_puti rfl pfX5_40_5 (kS0 ha) ?_
  refine a_l0 rfl rfl rfl ?_
  refine a_l1 rfl rfl rfl ?_
  refine a_getiv (v := I b 14) rfl gfX5_43_5 (kS0 hb) (by simp (disch := omega) only [up2_row, upr_row]) ?_
  refine a_puti rfl pfX5_43_5 (kS0 ha) ?_
  refine a_l0 rfl rfl rfl ?_
  refine a_l1 rfl rfl rfl ?_
  refine a_getiv (v := I b 15) rfl gfX5_46_5 (kS0 hb) (by simp (disch := omega) only [up2_row, upr_row]) ?_
  refine a_puti rfl pfX5_46_5 (kS0 ha) ?_
  refine a_l0 rfl rfl rfl ?_
  refine a_l1 rfl rfl rfl ?_
  refine a_getiv (v := I b 16) rfl gfX5_72_5 (kS0 hb) (by simp (disch := omega) only [up2_row, upr_row]) ?_
  refine a_puti rfl pfX5_72_5 (kS0 ha) ?_
  refine a_congr (I' := cpS I a b 9) (fun p k hm => ?_) (a_vret rfl rfl ⟨rfl, rfl⟩)
  by_cases h : a ≤ p ∧ p < a + 9
  · obtain ⟨i, rfl⟩ := Nat.exists_eq_add_of_le h.1
    have hi : i < 9 := by omega
    rw [cpS_in hi]
    rcases i with _ | _ | _ | _ | _ | _ | _ | _ | _ | i
    · have hk : (Nat.blt k 18 && isIntTy (tyX5 k)) = true := by
        unfold mI at hm
        rw [show a + 0 = a from rfl, kS0 ha] at hm
        exact hm
      simp (disch := omega) only [Nat.add_zero, upr_row]
      rcases k with _ | _ | _ | _ | _ | _ | _ | _ | _ | _ | _ | _ | _ | _ | _ | _ | _ | _ | k <;> first | (cases hk; done) | (simp [up2, upr]; done) | skip
    all_goals first | (simp (disch := omega) only [up2_row, upr_row, upr_at]; done) | (exfalso; omega)
  · rw [cpS_out h]
    simp (disch := omega) only [up2_row, upr_row]
theorem sp_X1_copyFrom {S : aS} {I : Nat → Nat → Int32} {L : Nat → Nat → Int64} {w1 w2 t : Nat} {a b : Nat} (ha : stp a) (hb : stp b) (hne : a ≠ b) : SpE S m_X1_copyFrom 13 [.ref (a + 9), .ref (b + 9)] (hp I L w1 w2 t) none (hp (cpS I (a + 9) (b + 9) 2) L w1 w2 t) := by
  refine SpE_of ok_X1_copyFrom rfl rfl ?_
  show AW S m_X1_copyFrom 13 _ _ 0 0 0 [some (.ref (a + 9)), some (.ref (b + 9))] [] (hp I L w1 w2 t)
  have hd := stp_apart a ha b hb hne
  refine a_l0 rfl rfl rfl ?_
  refine a_l1 rfl rfl rfl ?_
  refine a_getiv (v := I (b + 9) 0) rfl gfX1_15_1 (kS9 hb) (by simp (disch := omega) only [up2_row, upr_row]) ?_
  refine a_puti rfl pfX1_15_1 (kS9 ha) ?_
  refine a_l0 rfl rfl rfl ?_
  refine a_l1 rfl rfl rfl ?_
  refine a_getiv (v := I (b + 9) 1) rfl gfX1_19_1 (kS9 hb) (by simp (disch := omega) only [up2_row, upr_row]) ?_
  refine a_puti rfl pfX1_19_1 (kS9 ha) ?_
  refine a_l1 rfl rfl rfl ?_
  refine a_getq rfl gfX1_11_1 (kS9 hb) (rS29 hb) ?_
  refine a_l0 rfl rfl rfl ?_
  refine a_getq rfl gfX1_11_1 (kS9 ha) (rS29 ha) ?_
  refine a_eSN0 rfl lX1_22 mo_X11_copyRow (sp_X11_copyRow (f := I (b + 10)) (kS10 hb) (kS10 ha) (by simp (disch := omega) only [up2_row, upr_row])) rfl rfl rfl rfl ?_
  refine a_congr (I' := cpS I (a + 9) (b + 9) 2) (fun p k hm => ?_) (a_vret rfl rfl ⟨rfl, rfl⟩)
  by_cases h : a + 9 ≤ p ∧ p < a + 9 + 2
  · obtain ⟨i, rfl⟩ := Nat.exists_eq_add_of_le h.1
    have hi : i < 2 := by omega
    rw [cpS_in hi]
    rcases i with _ | _ | i
    · have hk : (Nat.blt k 3 && isIntTy (tyX1 k)) = true := by
        unfold mI at hm
        rw [show a + 9 + 0 = a + 9 from rfl, kS9 ha] at hm
        exact hm
      simp (disch := omega) only [Nat.add_zero, upr_row]
      rcases k with _ | _ | _ | k <;> first | (cases hk; done) | (simp [up2, upr]; done) | skip
    all_goals first | (simp (disch := omega) only [up2_row, upr_row, upr_at]; done) | (show upr _ (a + 10) _ (a + 10) _ = _; rw [upr_at]; done) | (exfalso; omega)
  · rw [cpS_out h]
    simp (disch := omega) only [up2_row, upr_row]
theorem sp_X5_copyAll {S : aS} {I : Nat → Nat → Int32} {L : Nat → Nat → Int64} {w1 w2 t : Nat} {a b : Nat} (ha : stp a) (hb : stp b) (hne : a ≠ b) : SpE S m_X5_copyAll 14 [.ref a, .ref b] (hp I L w1 w2 t) none (hp (cpS I a b 11) L w1 w2 t) := by
  refine SpE_of ok_X5_copyAll rfl rfl ?_
  show AW S m_X5_copyAll 14 _ _ 0 0 0 [some (.ref a), some (.ref b)] [] (hp I L w1 w2 t)
  refine a_l0 rfl rfl rfl ?_
  refine a_l1 rfl rfl rfl ?_
  refine a_eV0 rfl lX5_75 mo_X5_copyFrom (sp_X5_copyFrom ha hb hne) rfl rfl rfl ⟨5, _, (kS0 ha), rfl, rfl⟩ rfl ?_
  refine a_l0 rfl rfl rfl ?_
  refine a_getq rfl gfX5_52_5 (kS0 ha) (rS17 ha) ?_
  refine a_l1 rfl rfl rfl ?_
  refine a_getq rfl gfX5_52_5 (kS0 hb) (rS17 hb) ?_
  refine a_eV0 rfl lX5_79 mo_X1_copyFrom (sp_X1_copyFrom ha hb hne) rfl rfl rfl ⟨1, _, (kS9 ha), rfl, rfl⟩ rfl ?_
  refine a_vret rfl rfl ⟨rfl, by rw [cpS_all (stp_apart a ha b hb hne)]⟩
theorem sp_X2_copyFrom {S : aS} {I : Nat → Nat → Int32} {L : Nat → Nat → Int64} {w1 w2 t : Nat} {a b : Nat} (ha : lwp a) (hb : lwp b) (hne : a ≠ b) : SpE S m_X2_copyFrom 13 [.ref a, .ref b] (hp I L w1 w2 t) none (hp (cpL I a b) L w1 w2 t) := by
  refine SpE_of ok_X2_copyFrom rfl rfl ?_
  show AW S m_X2_copyFrom 13 _ _ 0 0 0 [some (.ref a), some (.ref b)] [] (hp I L w1 w2 t)
  have hd := lwp_apart a ha b hb hne
  refine a_l0 rfl rfl rfl ?_
  refine a_l1 rfl rfl rfl ?_
  refine a_getiv (v := I b 0) rfl gfX2_11_2 (kW0 hb) (by simp (disch := omega) only [up2_row, upr_row]) ?_
  refine a_puti rfl pfX2_11_2 (kW0 ha) ?_
  refine a_l1 rfl rfl rfl ?_
  refine a_getq rfl gfX2_15_2 (kW0 hb) (rW2 hb) ?_
  refine a_l0 rfl rfl rfl ?_
  refine a_getq rfl gfX2_15_2 (kW0 ha) (rW2 ha) ?_
  refine a_eSN0 rfl lX2_37 mo_X11_copyRow (sp_X11_copyRow (f := I (b + 1)) (kW1 hb) (kW1 ha) (by simp (disch := omega) only [up2_row, upr_row])) rfl rfl rfl rfl ?_
  refine a_l1 rfl rfl rfl ?_
  refine a_getq rfl gfX2_19_2 (kW0 hb) (rW3 hb) ?_
  refine a_l0 rfl rfl rfl ?_
  refine a_getq rfl gfX2_19_2 (kW0 ha) (rW3 ha) ?_
  refine a_eSN0 rfl lX2_37 mo_X11_copyRow (sp_X11_copyRow (f := I (b + 2)) (kW2 hb) (kW2 ha) (by simp (disch := omega) only [up2_row, upr_row])) rfl rfl rfl rfl ?_
  refine a_l1 rfl rfl rfl ?_
  refine a_getq rfl gfX2_22_2 (kW0 hb) (rW4 hb) ?_
  refine a_l0 rfl rfl rfl ?_
  refine a_getq rfl gfX2_22_2 (kW0 ha) (rW4 ha) ?_
  refine a_eSN0 rfl lX2_37 mo_X11_copyRow (sp_X11_copyRow (f := I (b + 3)) (kW3 hb) (kW3 ha) (by simp (disch := omega) only [up2_row, upr_row])) rfl rfl rfl rfl ?_
  refine a_l1 rfl rfl rfl ?_
  refine a_getq rfl gfX2_25_2 (kW0 hb) (rW5 hb) ?_
  refine a_l0 rfl rfl rfl ?_
  refine a_getq rfl gfX2_25_2 (kW0 ha) (rW5 ha) ?_
  refine a_eSN0 rfl lX2_37 mo_X11_copyRow (sp_X11_copyRow (f := I (b + 4)) (kW4 hb) (kW4 ha) (by simp (disch := omega) only [up2_row, upr_row])) rfl rfl rfl rfl ?_
  refine a_l1 rfl rfl rfl ?_
  refine a_getq rfl gfX2_28_2 (kW0 hb) (rW6 hb) ?_
  refine a_l0 rfl rfl rfl ?_
  refine a_getq rfl gfX2_28_2 (kW0 ha) (rW6 ha) ?_
  refine a_eSN0 rfl lX2_37 mo_X11_copyRow (sp_X11_copyRow (f := I (b + 5)) (kW5 hb) (kW5 ha) (by simp (disch := omega) only [up2_row, upr_row])) rfl rfl rfl rfl ?_
  refine a_congr (I' := cpL I a b) (fun p k hm => ?_) (a_vret rfl rfl ⟨rfl, rfl⟩)
  unfold cpL
  by_cases h : a + 1 ≤ p ∧ p < a + 1 + 5
  · rw [up2_row (by omega)]
    obtain ⟨i, rfl⟩ := Nat.exists_eq_add_of_le h.1
    have hi : i < 5 := by omega
    rw [cpS_in hi]
    rcases i with _ | _ | _ | _ | _ | i
    all_goals first | (simp (disch := omega) only [Nat.add_zero, up2_row, upr_row, upr_at]; done) | (simp (disch := omega) only [up2_row, upr_row]; rw [show b + 1 + 1 = b + 2 from rfl]; show upr _ (a + 2) _ (a + 2) k = _; rw [upr_at]; done) | (exfalso; omega) | skip
  · by_cases hp : p = a
    · subst hp
      simp (disch := omega) only [upr_row]
      by_cases hk : k = 0
      · subst hk
        rw [up2_at, up2_at]
      · rw [up2_ne (Or.inr hk), up2_ne (Or.inr hk), cpS_out (by omega)]
    · rw [up2_row hp, cpS_out h]
      simp (disch := omega) only [up2_row, upr_row]
theorem sp_X12_keepsAll {S : aS} {I : Nat → Nat → Int32} {L : Nat → Nat → Int64} {w1 w2 t : Nat}  : SpE S m_X12_keepsAll 12 [.ref 420] (hp I L w1 w2 t) none (hp (cpP I 424 421 335) L w1 w2 t) := by
  refine SpE_of ok_X12_keepsAll rfl rfl ?_
  show AW S m_X12_keepsAll 12 _ _ 0 0 0 [some (.ref 420), none] [] (hp I L w1 w2 t)
  refine a_s rfl rfl ?_
  refine a_s1 rfl rfl rfl rfl rfl rfl ?_
  refine a_forE (n := 335) (fun j => [some (.ref 420), some (.int (nI j))]) (fun j => hp (cpP I 424 421 j) L w1 w2 t) (by simp [lsub, nI_0]) (by rw [cpP_0]) ?_ (fun j hj ih2 => ?_)
  · refine a_l1 rfl rfl rfl ?_
    refine a_s rfl rfl ?_
    refine a_ic_ge rfl (fun c6 => ?_) (fun c => absurd (Int32.le_refl _) c)
    refine a_vret rfl rfl ⟨rfl, rfl⟩
  · refine a_l1 rfl rfl rfl ?_
    refine a_s rfl rfl ?_
    refine a_ic_ge rfl (fun c => absurd c (nI_ge (b := 335) hj (by omega))) (fun c6 => ?_)
    refine a_l0 rfl rfl rfl ?_
    refine a_getq rfl gfX12_23_12 rfl (rfl) ?_
    refine a_l1 rfl rfl rfl ?_
    refine a_l0 rfl rfl rfl ?_
    refine a_getq rfl gfX12_13_12 rfl (rfl) ?_
    refine a_l1 rfl rfl rfl ?_
    refine a_ialdv (v := I 421 j) rfl (n := 2033) rfl (inI_nI (by omega) (by omega)) (by rw [nI_clamp (by omega), cpP_src (by decide)]) ?_
    refine a_iastv (k := j) rfl (n := 335) rfl (inI_nI (by omega) (by omega)) (nI_clamp (by omega)) ?_
    rw [cpP_succ]
    refine a_i1 rfl rfl rfl ?_
    refine a_goto rfl ?_
    exact a_back ih2 (by simp [lsub, nI_1]) rfl
theorem sp_X12_bringsBack {S : aS} {I : Nat → Nat → Int32} {L : Nat → Nat → Int64} {w1 w2 t : Nat}  : SpE S m_X12_bringsBack 12 [.ref 420] (hp I L w1 w2 t) none (hp (cpP I 421 424 335) L w1 w2 t) := by
  refine SpE_of ok_X12_bringsBack rfl rfl ?_
  show AW S m_X12_bringsBack 12 _ _ 0 0 0 [some (.ref 420), none] [] (hp I L w1 w2 t)
  refine a_s rfl rfl ?_
  refine a_s1 rfl rfl rfl rfl rfl rfl ?_
  refine a_forE (n := 335) (fun j => [some (.ref 420), some (.int (nI j))]) (fun j => hp (cpP I 421 424 j) L w1 w2 t) (by simp [lsub, nI_0]) (by rw [cpP_0]) ?_ (fun j hj ih2 => ?_)
  · refine a_l1 rfl rfl rfl ?_
    refine a_s rfl rfl ?_
    refine a_ic_ge rfl (fun c6 => ?_) (fun c => absurd (Int32.le_refl _) c)
    refine a_vret rfl rfl ⟨rfl, rfl⟩
  · refine a_l1 rfl rfl rfl ?_
    refine a_s rfl rfl ?_
    refine a_ic_ge rfl (fun c => absurd c (nI_ge (b := 335) hj (by omega))) (fun c6 => ?_)
    refine a_l0 rfl rfl rfl ?_
    refine a_getq rfl gfX12_13_12 rfl (rfl) ?_
    refine a_l1 rfl rfl rfl ?_
    refine a_l0 rfl rfl rfl ?_
    refine a_getq rfl gfX12_23_12 rfl (rfl) ?_
    refine a_l1 rfl rfl rfl ?_
    refine a_ialdv (v := I 424 j) rfl (n := 335) rfl (inI_nI (by omega) (by omega)) (by rw [nI_clamp (by omega), cpP_src (by decide)]) ?_
    refine a_iastv (k := j) rfl (n := 2033) rfl (inI_nI (by omega) (by omega)) (nI_clamp (by omega)) ?_
    rw [cpP_succ]
    refine a_i1 rfl rfl rfl ?_
    refine a_goto rfl ?_
    exact a_back ih2 (by simp [lsub, nI_1]) rfl
end
section
/-! ===== numbers in ranges, throwing, small things (general) ===== -/
abbrev eIO : String := "java/lang/IndexOutOfBoundsException"
theorem Sp.weaken {S : aS} {C : aM} {d k1 k2 : Nat} {args : List Value} {h : aH} {Q Q' : Option Value → aH → Prop} {X X' : String → aH → Prop} (k : Sp S C d k1 k2 args h Q X) (hQ : ∀ v h', Q v h' → Q' v h') (hX : ∀ E h', X E h' → X' E h') : Sp S C d k1 k2 args h Q' X' := by
  intro l G hl p e ha f1 f2 s m av below hfr hap hP hK
  obtain ⟨n, o, z1, z2, z3, z4⟩ := k l G hl p e ha f1 f2 s m av below hfr hap hP hK
  refine ⟨n, o, z1, z2, z3, ?_⟩
  rcases z4 with ⟨⟨v, h', e1, e2, e3⟩, z5⟩ | ⟨q, e1, E, ce, L, ⟨h', x1, x2⟩, rest⟩
  · exact Or.inl ⟨⟨v, h', e1, hQ v h' e2, e3⟩, z5⟩
  · exact Or.inr ⟨q, e1, E, ce, L, ⟨h', hX E h' x1, x2⟩, rest⟩
section U42
variable {S : aS} {C C' : aM} {d d' : Nat} {Q : Option Value → aH → Prop} {X : String → aH → Prop} {k1 k2 pc np tgt n : Nat} {w : Int32} {ls : List (Option Value)} {st st0 : List Value} {h h' : aH} {As : List Value} {v : Value}
theorem a_eU1 {idx q : Nat} {x : MethodName} {owner cn : String} (hC : look C pc = some (.invokevirtual idx, np, tgt, w)) (hl : ∀ z ∈ [Cond.methodLink C.1.cls idx x, .sameMethod x.cls owner x.name x.desc, .selects cn x C'.1, .instanceMethod C'.1], inT z) (hdc : ∀ (G : aG) (s : State), SW S G s → va_Decl s ⟨owner, x.name, x.desc⟩) (hM : MO C' n) (hx : owner ≠ "java/lang/invoke/MethodHandle" ∧ owner ≠ "java/lang/invoke/VarHandle" ∧ (parseMethodDescriptor x.desc).map (fun d => d.parameters.length) = some n) (hs : SpE S C' d' (.ref q :: As) h (some v) h') (hn : As.length = n) (h0 : st0 = As.reverse ++ .ref q :: st) (ho : cOk d d' 0 0 k1 k2 st = true) (hq : rcv h q cn) (hh : C.2.2.2.2.1 = []) (kk : AW S C d Q X k1 k2 np ls (v :: st) h') : AW S C d Q X k1 k2 pc ls st0 h := by
  refine a_callU hC hl hdc hM hx hs hn h0 ho hq hh (fun v h' hv => ?_) (fun E h' hx => False.elim hx)
  obtain ⟨rfl, rfl⟩ := hv
  exact kk
theorem all4 {α : Type} {P : α → Prop} {a b c e : α} (h1 : P a) (h2 : P b) (h3 : P c) (h4 : P e) : ∀ z ∈ [a, b, c, e], P z := by
  intro z hz
  simp only [List.mem_cons, List.not_mem_nil, or_false] at hz
  rcases hz with rfl | rfl | rfl | rfl <;> assumption
end U42
def cpW (I : Nat → Nat → Int32) (j : Nat) : Nat → Nat → Int32 := upr I 421 (fun k => if 335 ≤ k ∧ k < 335 + j then I 421 (k + 849) else I 421 k)
theorem cpW_0 {I : Nat → Nat → Int32} : cpW I 0 = I := by
  funext x
  unfold cpW upr
  split
  · next h =>
    subst h
    funext k
    rw [if_neg (by omega)]
  · rfl
theorem cpW_src {I : Nat → Nat → Int32} {j : Nat} (hj : j < 849) : cpW I j 421 (1184 + j) = I 421 (1184 + j) := by
  unfold cpW
  rw [upr_at, if_neg (by omega)]
theorem cpW_succ {I : Nat → Nat → Int32} {j : Nat} : up2 (cpW I j) 421 (335 + j) (I 421 (1184 + j)) = cpW I (j + 1) := by
  funext x k
  by_cases hx : x = 421
  · subst hx
    by_cases hk : k = 335 + j
    · subst hk
      rw [up2_at]
      unfold cpW
      rw [upr_at, if_pos (by omega), show 335 + j + 849 = 1184 + j by omega]
    · rw [up2_ne (Or.inr hk)]
      unfold cpW
      rw [upr_at, upr_at]
      by_cases h : 335 ≤ k ∧ k < 335 + j
      · rw [if_pos h, if_pos (by omega)]
      · rw [if_neg h, if_neg (by omega)]
  · rw [up2_row hx]
    unfold cpW
    rw [upr_row hx, upr_row hx]
def inB (x a b : Int32) : Bool := decide (a ≤ x ∧ x ≤ b)
set_option maxRecDepth 100000
theorem sp_X12_in {S : aS} {h : aH} {x a b : Int32} : SpE S m_X12_in 12 [.int x, .int a, .int b] (h) (some (.int (bI (inB x a b)))) (h) := by
  refine SpE_of ok_X12_in rfl rfl ?_
  show AW S m_X12_in 12 _ _ 0 0 0 [some (.int x), some (.int a), some (.int b)] [] (h)
  refine a_l0 rfl rfl rfl ?_
  refine a_l1 rfl rfl rfl ?_
  refine a_ic_lt rfl (fun c2 => ?_) (fun c2 => ?_)
  · refine a_s rfl rfl ?_
    refine a_zret rfl rfl rfl ⟨by simp_all [inB, bI, le_nl, -Int32.not_lt, -Int32.not_le], rfl⟩
  · refine a_l0 rfl rfl rfl ?_
    refine a_l2 rfl rfl rfl ?_
    refine a_ic_gt rfl (fun c7 => ?_) (fun c7 => ?_)
    · refine a_s rfl rfl ?_
      refine a_zret rfl rfl rfl ⟨by simp_all [inB, bI, le_nl, -Int32.not_lt, -Int32.not_le], rfl⟩
    · refine a_s rfl rfl ?_
      refine a_goto rfl ?_
      refine a_zret rfl rfl rfl ⟨by simp_all [inB, bI, le_nl, -Int32.not_lt, -Int32.not_le], rfl⟩
theorem sp_X12_noKerb {S : aS} {h : aH} {x : Int32} : SpE S m_X12_noKerb 13 [.int x] (h) (some (.int (bI (!inB x 0 15)))) (h) := by
  refine SpE_of ok_X12_noKerb rfl rfl ?_
  show AW S m_X12_noKerb 13 _ _ 0 0 0 [some (.int x)] [] (h)
  refine a_l0 rfl rfl rfl ?_
  refine a_s rfl rfl ?_
  refine a_s rfl rfl ?_
  refine a_eS1 rfl lX12_70 mo_X12_in (sp_X12_in) rfl rfl rfl rfl ?_
  refine a_if_ne rfl (fun c7 => ?_) (fun c7 => ?_)
  · refine a_s rfl rfl ?_
    refine a_zret rfl rfl rfl ⟨by simp_all [bI_0, bI], rfl⟩
  · refine a_s rfl rfl ?_
    refine a_goto rfl ?_
    refine a_zret rfl rfl rfl ⟨by simp_all [bI_0, bI], rfl⟩
theorem sp_X12_noHour {S : aS} {h : aH} {x : Int32} : SpE S m_X12_noHour 13 [.int x] (h) (some (.int (bI (!inB x 0 300)))) (h) := by
  refine SpE_of ok_X12_noHour rfl rfl ?_
  show AW S m_X12_noHour 13 _ _ 0 0 0 [some (.int x)] [] (h)
  refine a_l0 rfl rfl rfl ?_
  refine a_s rfl rfl ?_
  refine a_s rfl rfl ?_
  refine a_eS1 rfl lX12_70 mo_X12_in (sp_X12_in) rfl rfl rfl rfl ?_
  refine a_if_ne rfl (fun c8 => ?_) (fun c8 => ?_)
  · refine a_s rfl rfl ?_
    refine a_zret rfl rfl rfl ⟨by simp_all [bI_0, bI], rfl⟩
  · refine a_s rfl rfl ?_
    refine a_goto rfl ?_
    refine a_zret rfl rfl rfl ⟨by simp_all [bI_0, bI], rfl⟩
theorem sp_X12_noDays {S : aS} {h : aH} {x : Int32} : SpE S m_X12_noDays 13 [.int x] (h) (some (.int (bI (!inB x 0 90)))) (h) := by
  refine SpE_of ok_X12_noDays rfl rfl ?_
  show AW S m_X12_noDays 13 _ _ 0 0 0 [some (.int x)] [] (h)
  refine a_l0 rfl rfl rfl ?_
  refine a_s rfl rfl ?_
  refine a_s rfl rfl ?_
  refine a_eS1 rfl lX12_70 mo_X12_in (sp_X12_in) rfl rfl rfl rfl ?_
  refine a_if_ne rfl (fun c7 => ?_) (fun c7 => ?_)
  · refine a_s rfl rfl ?_
    refine a_zret rfl rfl rfl ⟨by simp_all [bI_0, bI], rfl⟩
  · refine a_s rfl rfl ?_
    refine a_goto rfl ?_
    refine a_zret rfl rfl rfl ⟨by simp_all [bI_0, bI], rfl⟩
theorem sp0_throwsIf {S : aS} {I : Nat → Nat → Int32} {L : Nat → Nat → Int64} {w1 w2 t : Nat} {x : Int32} : SpE S m_X12_throwsIf 12 [.ref 420, .int 0, .int x] (hp I L w1 w2 t) (some (.int 0)) (hp I L w1 w2 t) := by
  refine SpE_of ok_X12_throwsIf rfl rfl ?_
  show AW S m_X12_throwsIf 12 _ _ 0 0 0 [some (.ref 420), some (.int 0), some (.int x)] [] (hp I L w1 w2 t)
  refine a_l1 rfl rfl rfl ?_
  refine a_if_eq rfl (fun c1 => ?_) (fun c => absurd (rfl) c)
  refine a_l1 rfl rfl rfl ?_
  refine a_zret rfl rfl rfl ⟨rfl, rfl⟩
theorem sp_needNumber {S : aS} {h : aH} {x a b : Int32} (h1 : inB x a b = true) : SpE S m_X11_needNumber 12 [.int x, .int a, .int b] h none h := by
  have h1 := of_decide_eq_true h1
  refine SpE_of ok_X11_needNumber rfl rfl ?_
  show AW S m_X11_needNumber 12 _ _ 0 0 0 [some (.int x), some (.int a), some (.int b)] [] h
  refine a_l0 rfl rfl rfl ?_
  refine a_l1 rfl rfl rfl ?_
  refine a_ic_lt rfl (fun c => absurd c (Int32.not_lt.mpr h1.1)) (fun c2 => ?_)
  refine a_l0 rfl rfl rfl ?_
  refine a_l2 rfl rfl rfl ?_
  refine a_ic_le rfl (fun c7 => ?_) (fun c => absurd (h1.2) c)
  refine a_vret rfl rfl ⟨rfl, rfl⟩
theorem spx_needNumber {S : aS} {I : Nat → Nat → Int32} {L : Nat → Nat → Int64} {w1 w2 t : Nat} {x a b : Int32} (h1 : inB x a b = false) : SpX S m_X11_needNumber 12 [.int x, .int a, .int b] (hp I L w1 w2 t) "java/lang/IllegalArgumentException" (hp I L w1 w2 0) := by
  have h1 := of_decide_eq_false h1
  refine SpX_of ok_X11_needNumber rfl rfl ?_
  show AW S m_X11_needNumber 12 _ _ 1 6 0 [some (.int x), some (.int a), some (.int b)] [] (hp I L w1 w2 t)
  refine a_l0 rfl rfl rfl ?_
  refine a_l1 rfl rfl rfl ?_
  refine a_ic_lt rfl (fun c2 => ?_) (fun c2 => ?_)
  · exact a_throw rfl rfl rfl rfl tX11_iae rfl rfl rfl rfl rfl ⟨rfl, rfl⟩
  · refine a_l0 rfl rfl rfl ?_
    refine a_l2 rfl rfl rfl ?_
    refine a_ic_le rfl (fun c => absurd c (fun z => h1 ⟨Int32.not_lt.mp c2, z⟩)) (fun c7 => ?_)
    exact a_throw rfl rfl rfl rfl tX11_iae rfl rfl rfl rfl rfl ⟨rfl, rfl⟩
theorem sp_needKerb {S : aS} {h : aH} {x : Int32} (h1 : inB x 0 15 = true) : SpE S m_X11_needKerb 12 [.int x] h none h := by
  have h1 := of_decide_eq_true h1
  refine SpE_of ok_X11_needKerb rfl rfl ?_
  show AW S m_X11_needKerb 12 _ _ 0 0 0 [some (.int x)] [] h
  refine a_l0 rfl rfl rfl ?_
  refine a_if_lt rfl (fun c => absurd c (Int32.not_lt.mpr h1.1)) (fun c1 => ?_)
  refine a_l0 rfl rfl rfl ?_
  refine a_s rfl rfl ?_
  refine a_ic_le rfl (fun c7 => ?_) (fun c => absurd (h1.2) c)
  refine a_vret rfl rfl ⟨rfl, rfl⟩
theorem spx_needKerb {S : aS} {I : Nat → Nat → Int32} {L : Nat → Nat → Int64} {w1 w2 t : Nat} {x : Int32} (h1 : inB x 0 15 = false) : SpX S m_X11_needKerb 12 [.int x] (hp I L w1 w2 t) eIO (hp I L w1 w2 0) := by
  have h1 := of_decide_eq_false h1
  refine SpX_of ok_X11_needKerb rfl rfl ?_
  show AW S m_X11_needKerb 12 _ _ 1 6 0 [some (.int x)] [] (hp I L w1 w2 t)
  refine a_l0 rfl rfl rfl ?_
  refine a_if_lt rfl (fun c1 => ?_) (fun c1 => ?_)
  · exact a_throw rfl rfl rfl rfl tX11_ioobe rfl rfl rfl rfl rfl ⟨rfl, rfl⟩
  · refine a_l0 rfl rfl rfl ?_
    refine a_s rfl rfl ?_
    refine a_ic_le rfl (fun c => absurd c (fun z => h1 ⟨Int32.not_lt.mp c1, z⟩)) (fun c7 => ?_)
    exact a_throw rfl rfl rfl rfl tX11_ioobe rfl rfl rfl rfl rfl ⟨rfl, rfl⟩

theorem sp_X12_duties {S : aS} {I : Nat → Nat → Int32} {L : Nat → Nat → Int64} {w1 w2 t : Nat} : SpE S m_X12_duties 12 [.ref 420] (hp I L w1 w2 t) (some (.int (I 421 1))) (hp I L w1 w2 t) := by
  refine SpE_of ok_X12_duties rfl rfl ?_
  show AW S m_X12_duties 12 _ _ 0 0 0 [some (.ref 420)] [] (hp I L w1 w2 t)
  refine a_l0 rfl rfl rfl ?_
  refine a_getq rfl gfX12_13_12 rfl (rfl) ?_
  refine a_s rfl rfl ?_
  refine a_iald rfl (n := 2033) rfl (⟨by decide, by decide⟩) ?_
  refine a_iret rfl rfl ⟨rfl, rfl⟩
theorem sp_X12_people {S : aS} {I : Nat → Nat → Int32} {L : Nat → Nat → Int64} {w1 w2 t : Nat} : SpE S m_X12_people 12 [.ref 420] (hp I L w1 w2 t) (some (.int (I 421 0))) (hp I L w1 w2 t) := by
  refine SpE_of ok_X12_people rfl rfl ?_
  show AW S m_X12_people 12 _ _ 0 0 0 [some (.ref 420)] [] (hp I L w1 w2 t)
  refine a_l0 rfl rfl rfl ?_
  refine a_getq rfl gfX12_13_12 rfl (rfl) ?_
  refine a_s rfl rfl ?_
  refine a_iald rfl (n := 2033) rfl (⟨by decide, by decide⟩) ?_
  refine a_iret rfl rfl ⟨rfl, rfl⟩
theorem sp1_throwsIf {S : aS} {I : Nat → Nat → Int32} {L : Nat → Nat → Int64} {w1 w2 t : Nat} {x : Int32} : SpE S m_X12_throwsIf 12 [.ref 420, .int 1, .int x] (hp I L w1 w2 t) (some (.int 1)) (hp (up2 I 420 0 x) L w1 w2 t) := by
  refine SpE_of ok_X12_throwsIf rfl rfl ?_
  show AW S m_X12_throwsIf 12 _ _ 0 0 0 [some (.ref 420), some (.int 1), some (.int x)] [] (hp I L w1 w2 t)
  refine a_l1 rfl rfl rfl ?_
  refine a_if_eq rfl (fun c => absurd c (by decide)) (fun c1 => ?_)
  refine a_l0 rfl rfl rfl ?_
  refine a_l2 rfl rfl rfl ?_
  refine a_puti rfl pfX12_3_12 rfl ?_
  refine a_l1 rfl rfl rfl ?_
  refine a_zret rfl rfl rfl ⟨rfl, rfl⟩
end
section
/-! ===== the reference: what is read off its world ===== -/
abbrev vd (W : Nat → Int32) (k d : Nat) : Int32 := W (23 + 6 * d + k)
abbrev vp (W : Nat → Int32) (k p : Nat) : Int32 := W (11 + 2 * p + k)
theorem nI_addl (a j : Nat) : nI a + nI j = nI (a + j) := by
  induction j with
  | zero => rw [nI_0, Int32.add_zero]; rfl
  | succ j ih => rw [nI_succ, ← Int32.add_assoc, ih, ← nI_succ]; rfl
theorem nI_mul (a j : Nat) : nI a * nI j = nI (a * j) := by
  induction j with
  | zero => rw [nI_0, Int32.mul_zero, Nat.mul_zero, nI_0]
  | succ j ih => rw [nI_succ, Int32.mul_add, ih, Int32.mul_one, nI_addl, Nat.mul_succ]
theorem nI_inj {a b : Nat} (ha : a < 2 ^ 31) (hb : b < 2 ^ 31) (h : nI a = nI b) : a = b := by
  have h2 := congrArg Int32.toInt h
  rw [nI_toInt ha, nI_toInt hb] at h2
  omega
theorem idxD (d k : Nat) : (23 : Int32) + 6 * nI d + nI k = nI (23 + 6 * d + k) := by
  rw [show (6 : Int32) = nI 6 from rfl, show (23 : Int32) = nI 23 from rfl, nI_mul, nI_addl, nI_addl]
theorem idxP (d k : Nat) : (11 : Int32) + 2 * nI d + nI k = nI (11 + 2 * d + k) := by
  rw [show (2 : Int32) = nI 2 from rfl, show (11 : Int32) = nI 11 from rfl, nI_mul, nI_addl, nI_addl]
theorem bit_lt {d : Nat} (h : d < 31) : (1 : Int32) <<< (nI d &&& 31) = bitF (nI d) := by
  unfold bitF
  rw [if_neg (nI_pos (by omega)), if_neg (show ¬ 31 ≤ nI d from nI_ge (b := 31) h (by omega))]
theorem and1 (x : Int32) : x &&& 1 = 0 ∨ x &&& 1 = 1 := by
  obtain ⟨n, hn, e⟩ : ∃ n : Nat, n < 2 ∧ x &&& 1 = nI n := by
    refine ⟨(x &&& 1).toBitVec.toNat, ?_, ?_⟩
    · have h : (x &&& 1).toBitVec.toNat = x.toBitVec.toNat &&& 1 := by
        rw [Int32.toBitVec_and, BitVec.toNat_and]
        rfl
      rw [h]
      exact Nat.lt_succ_of_le Nat.and_le_right
    · apply Int32.toBitVec_inj.mp
      show _ = (Int32.ofNat _).toBitVec
      rw [Int32.toBitVec_ofNat', BitVec.ofNat_toNat, BitVec.setWidth_eq]
  rw [e]
  rcases n with _ | _ | n
  · exact Or.inl rfl
  · exact Or.inr rfl
  · omega
theorem nI_ltu {n j : Nat} (h : n < j) (hj : j < 2 ^ 31) : nI n < nI j := Int32.lt_iff_toInt_lt.mpr (by rw [nI_toInt (by omega), nI_toInt hj]; omega)
theorem nI_nlu {n j : Nat} (h : j ≤ n) (hn : n < 2 ^ 31) : ¬ nI n < nI j := fun z => by
  have := Int32.lt_iff_toInt_lt.mp z
  rw [nI_toInt hn, nI_toInt (by omega)] at this
  omega
theorem nI_dec (n : Nat) : nI (n + 1) - 1 = nI n := by rw [nI_succ, Int32.add_sub_cancel]
theorem nI_decm (n : Nat) : nI (n + 1) + -1 = nI n := by rw [← Int32.sub_eq_add_neg, nI_dec]
theorem nI_lt_of {a b : Nat} (h : ¬ nI b ≤ nI a) (ha : a < 2 ^ 31) (hb : b < 2 ^ 31) : a < b := by
  rw [Int32.le_iff_toInt_le, nI_toInt ha, nI_toInt hb] at h
  omega
theorem nI_le_of {a b : Nat} (h : ¬ nI b < nI a) (ha : a < 2 ^ 31) (hb : b < 2 ^ 31) : a ≤ b := by
  rw [Int32.lt_iff_toInt_lt, nI_toInt ha, nI_toInt hb] at h
  omega
theorem nI_ge_of {a b : Nat} (h : nI b ≤ nI a) (ha : a < 2 ^ 31) (hb : b < 2 ^ 31) : b ≤ a := by
  rw [Int32.le_iff_toInt_le, nI_toInt ha, nI_toInt hb] at h
  omega
theorem bI_t {b : Bool} (h : ¬ bI b = 0) : b = true := by cases b <;> simp_all [bI]
theorem bI_f {b : Bool} (h : bI b = 0) : b = false := by cases b <;> simp_all [bI]
theorem cntF_t {n : Nat} {P : Nat → Bool} (h : P n = true) : cntF (n + 1) P = cntF n P + 1 := by simp [cntF, h]
theorem cntF_f {n : Nat} {P : Nat → Bool} (h : P n = false) : cntF (n + 1) P = cntF n P := by simp [cntF, h]
def lwF (W : Nat → Int32) (d : Nat) : Bool := decide (vd W 4 d = -1 ∨ vd W 5 (vd W 4 d).toNatClampNeg = 1)
def LeW (nd : Nat) (W : Nat → Int32) : Prop := ∀ d, d < nd → vd W 4 d = -1 ∨ ∃ e, e < nd ∧ vd W 4 d = nI e
set_option maxRecDepth 100000
theorem sp_X12_at {S : aS} {h : aH} {d k : Nat} : SpE S m_X12_at 12 [.int (nI d), .int (nI k)] (h) (some (.int (nI (23 + 6 * d + k)))) (h) := by
  refine SpE_of ok_X12_at rfl rfl ?_
  show AW S m_X12_at 12 _ _ 0 0 0 [some (.int (nI d)), some (.int (nI k))] [] (h)
  refine a_s rfl rfl ?_
  refine a_s rfl rfl ?_
  refine a_l0 rfl rfl rfl ?_
  refine a_s rfl rfl ?_
  refine a_s rfl rfl ?_
  refine a_l1 rfl rfl rfl ?_
  refine a_s rfl rfl ?_
  refine a_iret rfl rfl ⟨by rw [← idxD], rfl⟩
theorem sp_X12_personAt {S : aS} {h : aH} {d k : Nat} : SpE S m_X12_personAt 12 [.int (nI d), .int (nI k)] (h) (some (.int (nI (11 + 2 * d + k)))) (h) := by
  refine SpE_of ok_X12_personAt rfl rfl ?_
  show AW S m_X12_personAt 12 _ _ 0 0 0 [some (.int (nI d)), some (.int (nI k))] [] (h)
  refine a_s rfl rfl ?_
  refine a_s rfl rfl ?_
  refine a_l0 rfl rfl rfl ?_
  refine a_s rfl rfl ?_
  refine a_s rfl rfl ?_
  refine a_l1 rfl rfl rfl ?_
  refine a_s rfl rfl ?_
  refine a_iret rfl rfl ⟨by rw [← idxP], rfl⟩
theorem sp_X12_of {S : aS} {I : Nat → Nat → Int32} {L : Nat → Nat → Int64} {w1 w2 t : Nat} {d k : Nat} (hd : d < 12) (hk : k < 6) : SpE S m_X12_of 13 [.ref 420, .int (nI d), .int (nI k)] (hp I L w1 w2 t) (some (.int (vd (I 421) k d))) (hp I L w1 w2 t) := by
  refine SpE_of ok_X12_of rfl rfl ?_
  show AW S m_X12_of 13 _ _ 0 0 0 [some (.ref 420), some (.int (nI d)), some (.int (nI k))] [] (hp I L w1 w2 t)
  refine a_l0 rfl rfl rfl ?_
  refine a_getq rfl gfX12_13_12 rfl (rfl) ?_
  refine a_l1 rfl rfl rfl ?_
  refine a_l2 rfl rfl rfl ?_
  refine a_eS1 rfl lX12_60 mo_X12_at (sp_X12_at) rfl rfl rfl rfl ?_
  refine a_ialdv (v := vd (I 421) k d) rfl (n := 2033) rfl (inI_nI (by omega) (by omega)) (by rw [nI_clamp (by omega)]) ?_
  refine a_iret rfl rfl ⟨rfl, rfl⟩
theorem sp_X12_ofPerson {S : aS} {I : Nat → Nat → Int32} {L : Nat → Nat → Int64} {w1 w2 t : Nat} {d k : Nat} (hd : d < 6) (hk : k < 2) : SpE S m_X12_ofPerson 13 [.ref 420, .int (nI d), .int (nI k)] (hp I L w1 w2 t) (some (.int (vp (I 421) k d))) (hp I L w1 w2 t) := by
  refine SpE_of ok_X12_ofPerson rfl rfl ?_
  show AW S m_X12_ofPerson 13 _ _ 0 0 0 [some (.ref 420), some (.int (nI d)), some (.int (nI k))] [] (hp I L w1 w2 t)
  refine a_l0 rfl rfl rfl ?_
  refine a_getq rfl gfX12_13_12 rfl (rfl) ?_
  refine a_l1 rfl rfl rfl ?_
  refine a_l2 rfl rfl rfl ?_
  refine a_eS1 rfl lX12_56 mo_X12_personAt (sp_X12_personAt) rfl rfl rfl rfl ?_
  refine a_ialdv (v := vp (I 421) k d) rfl (n := 2033) rfl (inI_nI (by omega) (by omega)) (by rw [nI_clamp (by omega)]) ?_
  refine a_iret rfl rfl ⟨rfl, rfl⟩
theorem sp_X12_isWaiting {S : aS} {I : Nat → Nat → Int32} {L : Nat → Nat → Int64} {w1 w2 t : Nat} {d : Nat} (hd : d < 12) : SpE S m_X12_isWaiting 14 [.ref 420, .int (nI d)] (hp I L w1 w2 t) (some (.int (bI (decide (vd (I 421) 5 d = 0))))) (hp I L w1 w2 t) := by
  refine SpE_of ok_X12_isWaiting rfl rfl ?_
  show AW S m_X12_isWaiting 14 _ _ 0 0 0 [some (.ref 420), some (.int (nI d))] [] (hp I L w1 w2 t)
  refine a_l0 rfl rfl rfl ?_
  refine a_l1 rfl rfl rfl ?_
  refine a_s rfl rfl ?_
  refine a_eV1 rfl lX12_63 mo_X12_of (sp_X12_of (d := d) (k := 5) hd (by decide)) rfl rfl rfl ⟨12, _, rfl, rfl, rfl⟩ rfl ?_
  refine a_if_ne rfl (fun c6 => ?_) (fun c6 => ?_)
  · refine a_s rfl rfl ?_
    refine a_zret rfl rfl rfl ⟨by simp [bI, *], rfl⟩
  · refine a_s rfl rfl ?_
    refine a_goto rfl ?_
    refine a_zret rfl rfl rfl ⟨by simp [bI, *], rfl⟩
theorem sp_X12_isDone {S : aS} {I : Nat → Nat → Int32} {L : Nat → Nat → Int64} {w1 w2 t : Nat} {d : Nat} (hd : d < 12) : SpE S m_X12_isDone 14 [.ref 420, .int (nI d)] (hp I L w1 w2 t) (some (.int (bI (decide (vd (I 421) 5 d = 1))))) (hp I L w1 w2 t) := by
  refine SpE_of ok_X12_isDone rfl rfl ?_
  show AW S m_X12_isDone 14 _ _ 0 0 0 [some (.ref 420), some (.int (nI d))] [] (hp I L w1 w2 t)
  refine a_l0 rfl rfl rfl ?_
  refine a_l1 rfl rfl rfl ?_
  refine a_s rfl rfl ?_
  refine a_eV1 rfl lX12_63 mo_X12_of (sp_X12_of (d := d) (k := 5) hd (by decide)) rfl rfl rfl ⟨12, _, rfl, rfl, rfl⟩ rfl ?_
  refine a_s rfl rfl ?_
  refine a_ic_ne rfl (fun c7 => ?_) (fun c7 => ?_)
  · refine a_s rfl rfl ?_
    refine a_zret rfl rfl rfl ⟨by simp [bI, *], rfl⟩
  · refine a_s rfl rfl ?_
    refine a_goto rfl ?_
    refine a_zret rfl rfl rfl ⟨by simp [bI, *], rfl⟩
theorem sp_X12_isForgotten {S : aS} {I : Nat → Nat → Int32} {L : Nat → Nat → Int64} {w1 w2 t : Nat} {d : Nat} (hd : d < 12) : SpE S m_X12_isForgotten 14 [.ref 420, .int (nI d)] (hp I L w1 w2 t) (some (.int (bI (decide (vd (I 421) 5 d = 2))))) (hp I L w1 w2 t) := by
  refine SpE_of ok_X12_isForgotten rfl rfl ?_
  show AW S m_X12_isForgotten 14 _ _ 0 0 0 [some (.ref 420), some (.int (nI d))] [] (hp I L w1 w2 t)
  refine a_l0 rfl rfl rfl ?_
  refine a_l1 rfl rfl rfl ?_
  refine a_s rfl rfl ?_
  refine a_eV1 rfl lX12_63 mo_X12_of (sp_X12_of (d := d) (k := 5) hd (by decide)) rfl rfl rfl ⟨12, _, rfl, rfl, rfl⟩ rfl ?_
  refine a_s rfl rfl ?_
  refine a_ic_ne rfl (fun c7 => ?_) (fun c7 => ?_)
  · refine a_s rfl rfl ?_
    refine a_zret rfl rfl rfl ⟨by simp [bI, *], rfl⟩
  · refine a_s rfl rfl ?_
    refine a_goto rfl ?_
    refine a_zret rfl rfl rfl ⟨by simp [bI, *], rfl⟩
theorem sp_X12_has {S : aS} {h : aH} {s : Int32} {d : Nat} : SpE S m_X12_has 12 [.int s, .int (nI d)] (h) (some (.int (bI (shb s d)))) (h) := by
  refine SpE_of ok_X12_has rfl rfl ?_
  show AW S m_X12_has 12 _ _ 0 0 0 [some (.int s), some (.int (nI d))] [] (h)
  refine a_l0 rfl rfl rfl ?_
  refine a_l1 rfl rfl rfl ?_
  refine a_s rfl rfl ?_
  refine a_s rfl rfl ?_
  refine a_s rfl rfl ?_
  refine a_s rfl rfl ?_
  refine a_ic_ne rfl (fun c6 => ?_) (fun c6 => ?_)
  · refine a_s rfl rfl ?_
    refine a_zret rfl rfl rfl ⟨by rcases and1 (s >>> (nI d &&& 31)) with e | e <;> simp_all [shb, bI], rfl⟩
  · refine a_s rfl rfl ?_
    refine a_goto rfl ?_
    refine a_zret rfl rfl rfl ⟨by rcases and1 (s >>> (nI d &&& 31)) with e | e <;> simp_all [shb, bI], rfl⟩
theorem sp_X12_leansWell {S : aS} {I : Nat → Nat → Int32} {L : Nat → Nat → Int64} {w1 w2 t : Nat} {nd d : Nat} (hn : nd ≤ 12) (hd : d < nd) (hl : LeW nd (I 421)) : SpE S m_X12_leansWell 15 [.ref 420, .int (nI d)] (hp I L w1 w2 t) (some (.int (bI (lwF (I 421) d)))) (hp I L w1 w2 t) := by
  refine SpE_of ok_X12_leansWell rfl rfl ?_
  show AW S m_X12_leansWell 15 _ _ 0 0 0 [some (.ref 420), some (.int (nI d))] [] (hp I L w1 w2 t)
  refine a_l0 rfl rfl rfl ?_
  refine a_l1 rfl rfl rfl ?_
  refine a_s rfl rfl ?_
  refine a_eV1 rfl lX12_63 mo_X12_of (sp_X12_of (d := d) (k := 4) (by omega) (by decide)) rfl rfl rfl ⟨12, _, rfl, rfl, rfl⟩ rfl ?_
  refine a_s rfl rfl ?_
  refine a_ic_eq rfl (fun c7 => ?_) (fun c7 => ?_)
  · refine a_s rfl rfl ?_
    refine a_goto rfl ?_
    refine a_zret rfl rfl rfl ⟨by first | (simp_all [lwF, bI, bI_0]; done) | (have z := nI_clamp (show e < 2 ^ 31 by omega); simp_all [lwF, bI, bI_0]), rfl⟩
  · refine a_l0 rfl rfl rfl ?_
    refine a_l0 rfl rfl rfl ?_
    refine a_l1 rfl rfl rfl ?_
    refine a_s rfl rfl ?_
    refine a_eV1 rfl lX12_63 mo_X12_of (sp_X12_of (d := d) (k := 4) (by omega) (by decide)) rfl rfl rfl ⟨12, _, rfl, rfl, rfl⟩ rfl ?_
    obtain ⟨e, he, he2⟩ := (hl d hd).resolve_left c7
    refine a_top he2 ?_
    refine a_eV1 rfl lX12_246 mo_X12_isDone (sp_X12_isDone (d := e) (by omega)) rfl rfl rfl ⟨12, _, rfl, rfl, rfl⟩ rfl ?_
    refine a_if_eq rfl (fun c20 => ?_) (fun c20 => ?_)
    · refine a_s rfl rfl ?_
      refine a_zret rfl rfl rfl ⟨by first | (simp_all [lwF, bI, bI_0]; done) | (have z := nI_clamp (show e < 2 ^ 31 by omega); simp_all [lwF, bI, bI_0]), rfl⟩
    · refine a_s rfl rfl ?_
      refine a_goto rfl ?_
      refine a_zret rfl rfl rfl ⟨by first | (simp_all [lwF, bI, bI_0]; done) | (have z := nI_clamp (show e < 2 ^ 31 by omega); simp_all [lwF, bI, bI_0]), rfl⟩
theorem sp_X12_isReady {S : aS} {I : Nat → Nat → Int32} {L : Nat → Nat → Int64} {w1 w2 t : Nat} {nd d : Nat} (hn : nd ≤ 12) (hd : d < nd) (hl : LeW nd (I 421)) : SpE S m_X12_isReady 16 [.ref 420, .int (nI d)] (hp I L w1 w2 t) (some (.int (bI (decide (vd (I 421) 5 d = 0) && lwF (I 421) d)))) (hp I L w1 w2 t) := by
  refine SpE_of ok_X12_isReady rfl rfl ?_
  show AW S m_X12_isReady 16 _ _ 0 0 0 [some (.ref 420), some (.int (nI d))] [] (hp I L w1 w2 t)
  refine a_l0 rfl rfl rfl ?_
  refine a_l1 rfl rfl rfl ?_
  refine a_eV1 rfl lX12_135 mo_X12_isWaiting (sp_X12_isWaiting (d := d) (by omega)) rfl rfl rfl ⟨12, _, rfl, rfl, rfl⟩ rfl ?_
  refine a_if_eq rfl (fun c5 => ?_) (fun c5 => ?_)
  · refine a_s rfl rfl ?_
    refine a_zret rfl rfl rfl ⟨by simp_all [bI, bI_0], rfl⟩
  · refine a_l0 rfl rfl rfl ?_
    refine a_l1 rfl rfl rfl ?_
    refine a_eV1 rfl lX12_249 mo_X12_leansWell (sp_X12_leansWell hn hd hl) rfl rfl rfl ⟨12, _, rfl, rfl, rfl⟩ rfl ?_
    refine a_if_eq rfl (fun c13 => ?_) (fun c13 => ?_)
    · refine a_s rfl rfl ?_
      refine a_zret rfl rfl rfl ⟨by simp_all [bI, bI_0], rfl⟩
    · refine a_s rfl rfl ?_
      refine a_goto rfl ?_
      refine a_zret rfl rfl rfl ⟨by simp_all [bI, bI_0], rfl⟩
theorem sp_X12_goesAhead {S : aS} {I : Nat → Nat → Int32} {L : Nat → Nat → Int64} {w1 w2 t : Nat} {a b : Nat} (ha : a < 12) (hb : b < 12) : SpE S m_X12_goesAhead 14 [.ref 420, .int (nI a), .int (nI b)] (hp I L w1 w2 t) (some (.int (bI (decide (vd (I 421) 2 a < vd (I 421) 2 b ∨ (vd (I 421) 2 a = vd (I 421) 2 b ∧ nI a < nI b)))))) (hp I L w1 w2 t) := by
  refine SpE_of ok_X12_goesAhead rfl rfl ?_
  show AW S m_X12_goesAhead 14 _ _ 0 0 0 [some (.ref 420), some (.int (nI a)), some (.int (nI b))] [] (hp I L w1 w2 t)
  refine a_l0 rfl rfl rfl ?_
  refine a_l1 rfl rfl rfl ?_
  refine a_s rfl rfl ?_
  refine a_eV1 rfl lX12_63 mo_X12_of (sp_X12_of (d := a) (k := 2) ha (by decide)) rfl rfl rfl ⟨12, _, rfl, rfl, rfl⟩ rfl ?_
  refine a_l0 rfl rfl rfl ?_
  refine a_l2 rfl rfl rfl ?_
  refine a_s rfl rfl ?_
  refine a_eV1 rfl lX12_63 mo_X12_of (sp_X12_of (d := b) (k := 2) hb (by decide)) rfl rfl rfl ⟨12, _, rfl, rfl, rfl⟩ rfl ?_
  refine a_ic_lt rfl (fun c12 => ?_) (fun c12 => ?_)
  · refine a_s rfl rfl ?_
    refine a_goto rfl ?_
    refine a_zret rfl rfl rfl ⟨by simp_all [bI, le_nl, -Int32.not_lt, -Int32.not_le], rfl⟩
  · refine a_l0 rfl rfl rfl ?_
    refine a_l1 rfl rfl rfl ?_
    refine a_s rfl rfl ?_
    refine a_eV1 rfl lX12_63 mo_X12_of (sp_X12_of (d := a) (k := 2) ha (by decide)) rfl rfl rfl ⟨12, _, rfl, rfl, rfl⟩ rfl ?_
    refine a_l0 rfl rfl rfl ?_
    refine a_l2 rfl rfl rfl ?_
    refine a_s rfl rfl ?_
    refine a_eV1 rfl lX12_63 mo_X12_of (sp_X12_of (d := b) (k := 2) hb (by decide)) rfl rfl rfl ⟨12, _, rfl, rfl, rfl⟩ rfl ?_
    refine a_ic_ne rfl (fun c27 => ?_) (fun c27 => ?_)
    · refine a_s rfl rfl ?_
      refine a_zret rfl rfl rfl ⟨by simp_all [bI, le_nl, -Int32.not_lt, -Int32.not_le], rfl⟩
    · refine a_l1 rfl rfl rfl ?_
      refine a_l2 rfl rfl rfl ?_
      refine a_ic_ge rfl (fun c32 => ?_) (fun c32 => ?_)
      · refine a_s rfl rfl ?_
        refine a_zret rfl rfl rfl ⟨by simp_all [bI, le_nl, -Int32.not_lt, -Int32.not_le], rfl⟩
      · refine a_s rfl rfl ?_
        refine a_goto rfl ?_
        refine a_zret rfl rfl rfl ⟨by simp_all [bI, le_nl, -Int32.not_lt, -Int32.not_le], rfl⟩
end
section
/-! ===== the reference: over all duties ===== -/
def readyR (W : Nat → Int32) (d : Nat) : Bool := decide (vd W 5 d = 0) && lwF W d
def passR (nd : Nat) (W : Nat → Int32) (d : Nat) : Int32 := if vd W 5 d = 0 then W 7 * nI (cntF nd (fun e => decide (vd W 5 e = 0 ∧ vd W 2 e ≤ vd W 2 d))) else 0
def canR (nd : Nat) (W : Nat → Int32) (d : Nat) : Bool := readyR W d && decide (vd W 1 d ≤ passR nd W d)
def whereR (nd : Nat) (W : Nat → Int32) (d : Nat) (hour : Int32) : Int32 := if vd W 5 d = 0 then (if 0 ≤ hour / W 7 - placeF nd (vd W 5) (vd W 2) (nI d) then (if hour / W 7 - placeF nd (vd W 5) (vd W 2) (nI d) < 16 then hour / W 7 - placeF nd (vd W 5) (vd W 2) (nI d) else 16) else -1) else -1
def daysR (h f : Int32) : Int32 := if h = 0 then 0 else if f = 0 then 1000 else (h + f - 1) / f
def waitR (nd : Nat) (W : Nat → Int32) (p : Int32) : Int32 := ownF nd (vd W 0) p &&& inS nd (vd W 5) 0
def loadR (nd : Nat) (W : Nat → Int32) (p : Int32) : Int32 := sumF (vd W 1) (waitR nd W p) nd
theorem bI_1 (b : Bool) : bI b = 1 ↔ b = true := by cases b <;> simp [bI]
set_option maxRecDepth 100000
theorem sp_X12_ofState {S : aS} {I : Nat → Nat → Int32} {L : Nat → Nat → Int64} {w1 w2 t : Nat} {nd : Nat} (hn : nd ≤ 12) (hd : I 421 1 = nI nd) {w : Int32} : SpE S m_X12_ofState 14 [.ref 420, .int w] (hp I L w1 w2 t) (some (.int (inS nd (vd (I 421) 5) w))) (hp I L w1 w2 t) := by
  refine SpE_of ok_X12_ofState rfl rfl ?_
  show AW S m_X12_ofState 14 _ _ 0 0 0 [some (.ref 420), some (.int w), none, none] [] (hp I L w1 w2 t)
  refine a_s rfl rfl ?_
  refine a_s2 rfl rfl rfl rfl rfl rfl ?_
  refine a_s rfl rfl ?_
  refine a_s3 rfl rfl rfl rfl rfl rfl ?_
  refine a_forE (n := nd) (fun j => [some (.ref 420), some (.int w), some (.int (bs j (fun d => decide (vd (I 421) 5 d = w)))), some (.int (nI j))]) (fun j => hp I L w1 w2 t) (by simp [lsub, nI_0, bs, sumF, cntF]) (rfl) ?_ (fun j hj ih4 => ?_)
  · refine a_l3 rfl rfl rfl ?_
    refine a_l0 rfl rfl rfl ?_
    refine a_eV1 rfl lX12_74 mo_X12_duties (sp_X12_duties) rfl rfl rfl ⟨12, _, rfl, rfl, rfl⟩ rfl ?_
    refine a_top hd ?_
    refine a_ic_ge rfl (fun c9 => ?_) (fun c => absurd (Int32.le_refl _) c)
    refine a_l2 rfl rfl rfl ?_
    refine a_iret rfl rfl ⟨rfl, rfl⟩
  · refine a_l3 rfl rfl rfl ?_
    refine a_l0 rfl rfl rfl ?_
    refine a_eV1 rfl lX12_74 mo_X12_duties (sp_X12_duties) rfl rfl rfl ⟨12, _, rfl, rfl, rfl⟩ rfl ?_
    refine a_top hd ?_
    refine a_ic_ge rfl (fun c => absurd c (nI_ge hj (by omega))) (fun c9 => ?_)
    refine a_l2 rfl rfl rfl ?_
    refine a_l0 rfl rfl rfl ?_
    refine a_l3 rfl rfl rfl ?_
    refine a_s rfl rfl ?_
    refine a_eV1 rfl lX12_63 mo_X12_of (sp_X12_of (d := j) (k := 5) (by omega) (by decide)) rfl rfl rfl ⟨12, _, rfl, rfl, rfl⟩ rfl ?_
    refine a_l1 rfl rfl rfl ?_
    refine a_ic_ne rfl (fun c20 => ?_) (fun c20 => ?_)
    · refine a_s rfl rfl ?_
      refine a_s rfl rfl ?_
      refine a_s2 rfl rfl rfl rfl rfl rfl ?_
      refine a_i3 rfl rfl rfl ?_
      refine a_goto rfl ?_
      exact a_back ih4 (by simp_all [lsub, nI_1, bs, cntF, sumF, bI_0, bI, bit_lt (show j < 31 by omega)]) rfl
    · refine a_s rfl rfl ?_
      refine a_l3 rfl rfl rfl ?_
      refine a_s rfl rfl ?_
      refine a_goto rfl ?_
      refine a_s rfl rfl ?_
      refine a_s2 rfl rfl rfl rfl rfl rfl ?_
      refine a_i3 rfl rfl rfl ?_
      refine a_goto rfl ?_
      exact a_back ih4 (by simp_all [lsub, nI_1, bs, cntF, sumF, bI_0, bI, bit_lt (show j < 31 by omega)]) rfl
theorem sp_X12_ownedBy {S : aS} {I : Nat → Nat → Int32} {L : Nat → Nat → Int64} {w1 w2 t : Nat} {nd : Nat} (hn : nd ≤ 12) (hd : I 421 1 = nI nd) {w : Int32} : SpE S m_X12_ownedBy 14 [.ref 420, .int w] (hp I L w1 w2 t) (some (.int (ownF nd (vd (I 421) 0) w))) (hp I L w1 w2 t) := by
  refine SpE_of ok_X12_ownedBy rfl rfl ?_
  show AW S m_X12_ownedBy 14 _ _ 0 0 0 [some (.ref 420), some (.int w), none, none] [] (hp I L w1 w2 t)
  refine a_s rfl rfl ?_
  refine a_s2 rfl rfl rfl rfl rfl rfl ?_
  refine a_s rfl rfl ?_
  refine a_s3 rfl rfl rfl rfl rfl rfl ?_
  refine a_forE (n := nd) (fun j => [some (.ref 420), some (.int w), some (.int (bs j (fun d => decide (vd (I 421) 0 d = w)))), some (.int (nI j))]) (fun j => hp I L w1 w2 t) (by simp [lsub, nI_0, bs, sumF, cntF]) (rfl) ?_ (fun j hj ih4 => ?_)
  · refine a_l3 rfl rfl rfl ?_
    refine a_l0 rfl rfl rfl ?_
    refine a_eV1 rfl lX12_74 mo_X12_duties (sp_X12_duties) rfl rfl rfl ⟨12, _, rfl, rfl, rfl⟩ rfl ?_
    refine a_top hd ?_
    refine a_ic_ge rfl (fun c9 => ?_) (fun c => absurd (Int32.le_refl _) c)
    refine a_l2 rfl rfl rfl ?_
    refine a_iret rfl rfl ⟨rfl, rfl⟩
  · refine a_l3 rfl rfl rfl ?_
    refine a_l0 rfl rfl rfl ?_
    refine a_eV1 rfl lX12_74 mo_X12_duties (sp_X12_duties) rfl rfl rfl ⟨12, _, rfl, rfl, rfl⟩ rfl ?_
    refine a_top hd ?_
    refine a_ic_ge rfl (fun c => absurd c (nI_ge hj (by omega))) (fun c9 => ?_)
    refine a_l2 rfl rfl rfl ?_
    refine a_l0 rfl rfl rfl ?_
    refine a_l3 rfl rfl rfl ?_
    refine a_s rfl rfl ?_
    refine a_eV1 rfl lX12_63 mo_X12_of (sp_X12_of (d := j) (k := 0) (by omega) (by decide)) rfl rfl rfl ⟨12, _, rfl, rfl, rfl⟩ rfl ?_
    refine a_l1 rfl rfl rfl ?_
    refine a_ic_ne rfl (fun c20 => ?_) (fun c20 => ?_)
    · refine a_s rfl rfl ?_
      refine a_s rfl rfl ?_
      refine a_s2 rfl rfl rfl rfl rfl rfl ?_
      refine a_i3 rfl rfl rfl ?_
      refine a_goto rfl ?_
      exact a_back ih4 (by simp_all [lsub, nI_1, bs, cntF, sumF, bI_0, bI, bit_lt (show j < 31 by omega)]) rfl
    · refine a_s rfl rfl ?_
      refine a_l3 rfl rfl rfl ?_
      refine a_s rfl rfl ?_
      refine a_goto rfl ?_
      refine a_s rfl rfl ?_
      refine a_s2 rfl rfl rfl rfl rfl rfl ?_
      refine a_i3 rfl rfl rfl ?_
      refine a_goto rfl ?_
      exact a_back ih4 (by simp_all [lsub, nI_1, bs, cntF, sumF, bI_0, bI, bit_lt (show j < 31 by omega)]) rfl
theorem sp_X12_olderOnes {S : aS} {I : Nat → Nat → Int32} {L : Nat → Nat → Int64} {w1 w2 t : Nat} {nd : Nat} (hn : nd ≤ 12) (hd : I 421 1 = nI nd) {w : Int32} : SpE S m_X12_olderOnes 15 [.ref 420, .int w] (hp I L w1 w2 t) (some (.int (oldF nd (vd (I 421) 5) (vd (I 421) 2) w))) (hp I L w1 w2 t) := by
  refine SpE_of ok_X12_olderOnes rfl rfl ?_
  show AW S m_X12_olderOnes 15 _ _ 0 0 0 [some (.ref 420), some (.int w), none, none] [] (hp I L w1 w2 t)
  refine a_s rfl rfl ?_
  refine a_s2 rfl rfl rfl rfl rfl rfl ?_
  refine a_s rfl rfl ?_
  refine a_s3 rfl rfl rfl rfl rfl rfl ?_
  refine a_forE (n := nd) (fun j => [some (.ref 420), some (.int w), some (.int (bs j (fun d => decide (vd (I 421) 5 d = 0 ∧ w < vd (I 421) 2 d)))), some (.int (nI j))]) (fun j => hp I L w1 w2 t) (by simp [lsub, nI_0, bs, sumF, cntF]) (rfl) ?_ (fun j hj ih4 => ?_)
  · refine a_l3 rfl rfl rfl ?_
    refine a_l0 rfl rfl rfl ?_
    refine a_eV1 rfl lX12_74 mo_X12_duties (sp_X12_duties) rfl rfl rfl ⟨12, _, rfl, rfl, rfl⟩ rfl ?_
    refine a_top hd ?_
    refine a_ic_ge rfl (fun c9 => ?_) (fun c => absurd (Int32.le_refl _) c)
    refine a_l2 rfl rfl rfl ?_
    refine a_iret rfl rfl ⟨rfl, rfl⟩
  · refine a_l3 rfl rfl rfl ?_
    refine a_l0 rfl rfl rfl ?_
    refine a_eV1 rfl lX12_74 mo_X12_duties (sp_X12_duties) rfl rfl rfl ⟨12, _, rfl, rfl, rfl⟩ rfl ?_
    refine a_top hd ?_
    refine a_ic_ge rfl (fun c => absurd c (nI_ge hj (by omega))) (fun c9 => ?_)
    refine a_l2 rfl rfl rfl ?_
    refine a_l0 rfl rfl rfl ?_
    refine a_l3 rfl rfl rfl ?_
    refine a_eV1 rfl lX12_135 mo_X12_isWaiting (sp_X12_isWaiting (d := j) (by omega)) rfl rfl rfl ⟨12, _, rfl, rfl, rfl⟩ rfl ?_
    refine a_if_eq rfl (fun c18 => ?_) (fun c18 => ?_)
    · refine a_s rfl rfl ?_
      refine a_s rfl rfl ?_
      refine a_s2 rfl rfl rfl rfl rfl rfl ?_
      refine a_i3 rfl rfl rfl ?_
      refine a_goto rfl ?_
      exact a_back ih4 (by simp_all [lsub, nI_1, bs, cntF, sumF, bI_0, bI, bit_lt (show j < 31 by omega), le_nl, -Int32.not_lt, -Int32.not_le]) rfl
    · refine a_l0 rfl rfl rfl ?_
      refine a_l3 rfl rfl rfl ?_
      refine a_s rfl rfl ?_
      refine a_eV1 rfl lX12_63 mo_X12_of (sp_X12_of (d := j) (k := 2) (by omega) (by decide)) rfl rfl rfl ⟨12, _, rfl, rfl, rfl⟩ rfl ?_
      refine a_l1 rfl rfl rfl ?_
      refine a_ic_le rfl (fun c28 => ?_) (fun c28 => ?_)
      · refine a_s rfl rfl ?_
        refine a_s rfl rfl ?_
        refine a_s2 rfl rfl rfl rfl rfl rfl ?_
        refine a_i3 rfl rfl rfl ?_
        refine a_goto rfl ?_
        exact a_back ih4 (by simp_all [lsub, nI_1, bs, cntF, sumF, bI_0, bI, bit_lt (show j < 31 by omega), le_nl, -Int32.not_lt, -Int32.not_le]) rfl
      · refine a_s rfl rfl ?_
        refine a_l3 rfl rfl rfl ?_
        refine a_s rfl rfl ?_
        refine a_goto rfl ?_
        refine a_s rfl rfl ?_
        refine a_s2 rfl rfl rfl rfl rfl rfl ?_
        refine a_i3 rfl rfl rfl ?_
        refine a_goto rfl ?_
        exact a_back ih4 (by simp_all [lsub, nI_1, bs, cntF, sumF, bI_0, bI, bit_lt (show j < 31 by omega), le_nl, -Int32.not_lt, -Int32.not_le]) rfl
theorem sp_X12_readyOnes {S : aS} {I : Nat → Nat → Int32} {L : Nat → Nat → Int64} {w1 w2 t : Nat} {nd : Nat} (hn : nd ≤ 12) (hd : I 421 1 = nI nd) (hl : LeW nd (I 421)) : SpE S m_X12_readyOnes 17 [.ref 420] (hp I L w1 w2 t) (some (.int (bs nd (readyR (I 421))))) (hp I L w1 w2 t) := by
  refine SpE_of ok_X12_readyOnes rfl rfl ?_
  show AW S m_X12_readyOnes 17 _ _ 0 0 0 [some (.ref 420), none, none] [] (hp I L w1 w2 t)
  refine a_s rfl rfl ?_
  refine a_s1 rfl rfl rfl rfl rfl rfl ?_
  refine a_s rfl rfl ?_
  refine a_s2 rfl rfl rfl rfl rfl rfl ?_
  refine a_forE (n := nd) (fun j => [some (.ref 420), some (.int (bs j (readyR (I 421)))), some (.int (nI j))]) (fun j => hp I L w1 w2 t) (by simp [lsub, nI_0, bs, sumF, cntF]) (rfl) ?_ (fun j hj ih4 => ?_)
  · refine a_l2 rfl rfl rfl ?_
    refine a_l0 rfl rfl rfl ?_
    refine a_eV1 rfl lX12_74 mo_X12_duties (sp_X12_duties) rfl rfl rfl ⟨12, _, rfl, rfl, rfl⟩ rfl ?_
    refine a_top hd ?_
    refine a_ic_ge rfl (fun c9 => ?_) (fun c => absurd (Int32.le_refl _) c)
    refine a_l1 rfl rfl rfl ?_
    refine a_iret rfl rfl ⟨rfl, rfl⟩
  · refine a_l2 rfl rfl rfl ?_
    refine a_l0 rfl rfl rfl ?_
    refine a_eV1 rfl lX12_74 mo_X12_duties (sp_X12_duties) rfl rfl rfl ⟨12, _, rfl, rfl, rfl⟩ rfl ?_
    refine a_top hd ?_
    refine a_ic_ge rfl (fun c => absurd c (nI_ge hj (by omega))) (fun c9 => ?_)
    refine a_l1 rfl rfl rfl ?_
    refine a_l0 rfl rfl rfl ?_
    refine a_l2 rfl rfl rfl ?_
    refine a_eV1 rfl lX12_273 mo_X12_isReady (sp_X12_isReady hn hj hl) rfl rfl rfl ⟨12, _, rfl, rfl, rfl⟩ rfl ?_
    refine a_if_eq rfl (fun c18 => ?_) (fun c18 => ?_)
    · refine a_s rfl rfl ?_
      refine a_s rfl rfl ?_
      refine a_s1 rfl rfl rfl rfl rfl rfl ?_
      refine a_i2 rfl rfl rfl ?_
      refine a_goto rfl ?_
      exact a_back ih4 (by simp_all [lsub, nI_1, bs, cntF, sumF, bI_0, bI, bit_lt (show j < 31 by omega), readyR]) rfl
    · refine a_s rfl rfl ?_
      refine a_l2 rfl rfl rfl ?_
      refine a_s rfl rfl ?_
      refine a_goto rfl ?_
      refine a_s rfl rfl ?_
      refine a_s1 rfl rfl rfl rfl rfl rfl ?_
      refine a_i2 rfl rfl rfl ?_
      refine a_goto rfl ?_
      exact a_back ih4 (by simp_all [lsub, nI_1, bs, cntF, sumF, bI_0, bI, bit_lt (show j < 31 by omega), readyR]) rfl
theorem sp_X12_hoursOf {S : aS} {I : Nat → Nat → Int32} {L : Nat → Nat → Int64} {w1 w2 t : Nat} {nd : Nat} (hn : nd ≤ 12) (hd : I 421 1 = nI nd) {s : Int32} : SpE S m_X12_hoursOf 14 [.ref 420, .int s] (hp I L w1 w2 t) (some (.int (sumF (vd (I 421) 1) s nd))) (hp I L w1 w2 t) := by
  refine SpE_of ok_X12_hoursOf rfl rfl ?_
  show AW S m_X12_hoursOf 14 _ _ 0 0 0 [some (.ref 420), some (.int s), none, none] [] (hp I L w1 w2 t)
  refine a_s rfl rfl ?_
  refine a_s2 rfl rfl rfl rfl rfl rfl ?_
  refine a_s rfl rfl ?_
  refine a_s3 rfl rfl rfl rfl rfl rfl ?_
  refine a_forE (n := nd) (fun j => [some (.ref 420), some (.int s), some (.int (sumF (vd (I 421) 1) s j)), some (.int (nI j))]) (fun j => hp I L w1 w2 t) (by simp [lsub, nI_0, bs, sumF, cntF]) (rfl) ?_ (fun j hj ih4 => ?_)
  · refine a_l3 rfl rfl rfl ?_
    refine a_l0 rfl rfl rfl ?_
    refine a_eV1 rfl lX12_74 mo_X12_duties (sp_X12_duties) rfl rfl rfl ⟨12, _, rfl, rfl, rfl⟩ rfl ?_
    refine a_top hd ?_
    refine a_ic_ge rfl (fun c9 => ?_) (fun c => absurd (Int32.le_refl _) c)
    refine a_l2 rfl rfl rfl ?_
    refine a_iret rfl rfl ⟨rfl, rfl⟩
  · refine a_l3 rfl rfl rfl ?_
    refine a_l0 rfl rfl rfl ?_
    refine a_eV1 rfl lX12_74 mo_X12_duties (sp_X12_duties) rfl rfl rfl ⟨12, _, rfl, rfl, rfl⟩ rfl ?_
    refine a_top hd ?_
    refine a_ic_ge rfl (fun c => absurd c (nI_ge hj (by omega))) (fun c9 => ?_)
    refine a_l2 rfl rfl rfl ?_
    refine a_l1 rfl rfl rfl ?_
    refine a_l3 rfl rfl rfl ?_
    refine a_eS1 rfl lX12_304 mo_X12_has (sp_X12_has) rfl rfl rfl rfl ?_
    refine a_if_eq rfl (fun c18 => ?_) (fun c18 => ?_)
    · refine a_s rfl rfl ?_
      refine a_s rfl rfl ?_
      refine a_s2 rfl rfl rfl rfl rfl rfl ?_
      refine a_i3 rfl rfl rfl ?_
      refine a_goto rfl ?_
      exact a_back ih4 (by simp_all [lsub, nI_1, bs, cntF, sumF, bI_0, bI, bit_lt (show j < 31 by omega), Int32.add_zero]) rfl
    · refine a_l0 rfl rfl rfl ?_
      refine a_l3 rfl rfl rfl ?_
      refine a_s rfl rfl ?_
      refine a_eV1 rfl lX12_63 mo_X12_of (sp_X12_of (d := j) (k := 1) (by omega) (by decide)) rfl rfl rfl ⟨12, _, rfl, rfl, rfl⟩ rfl ?_
      refine a_goto rfl ?_
      refine a_s rfl rfl ?_
      refine a_s2 rfl rfl rfl rfl rfl rfl ?_
      refine a_i3 rfl rfl rfl ?_
      refine a_goto rfl ?_
      exact a_back ih4 (by simp_all [lsub, nI_1, bs, cntF, sumF, bI_0, bI, bit_lt (show j < 31 by omega), Int32.add_zero]) rfl
theorem sp_X12_waitingOf {S : aS} {I : Nat → Nat → Int32} {L : Nat → Nat → Int64} {w1 w2 t : Nat} {nd : Nat} (hn : nd ≤ 12) (hd : I 421 1 = nI nd) {w : Int32} : SpE S m_X12_waitingOf 15 [.ref 420, .int w] (hp I L w1 w2 t) (some (.int (waitR nd (I 421) w))) (hp I L w1 w2 t) := by
  refine SpE_of ok_X12_waitingOf rfl rfl ?_
  show AW S m_X12_waitingOf 15 _ _ 0 0 0 [some (.ref 420), some (.int w)] [] (hp I L w1 w2 t)
  refine a_l0 rfl rfl rfl ?_
  refine a_l1 rfl rfl rfl ?_
  refine a_eV1 rfl lX12_321 mo_X12_ownedBy (sp_X12_ownedBy hn hd) rfl rfl rfl ⟨12, _, rfl, rfl, rfl⟩ rfl ?_
  refine a_l0 rfl rfl rfl ?_
  refine a_s rfl rfl ?_
  refine a_eV1 rfl lX12_324 mo_X12_ofState (sp_X12_ofState hn hd) rfl rfl rfl ⟨12, _, rfl, rfl, rfl⟩ rfl ?_
  refine a_s rfl rfl ?_
  refine a_iret rfl rfl ⟨rfl, rfl⟩
theorem sp_X12_loadOf {S : aS} {I : Nat → Nat → Int32} {L : Nat → Nat → Int64} {w1 w2 t : Nat} {nd : Nat} (hn : nd ≤ 12) (hd : I 421 1 = nI nd) {w : Int32} : SpE S m_X12_loadOf 16 [.ref 420, .int w] (hp I L w1 w2 t) (some (.int (loadR nd (I 421) w))) (hp I L w1 w2 t) := by
  refine SpE_of ok_X12_loadOf rfl rfl ?_
  show AW S m_X12_loadOf 16 _ _ 0 0 0 [some (.ref 420), some (.int w)] [] (hp I L w1 w2 t)
  refine a_l0 rfl rfl rfl ?_
  refine a_l0 rfl rfl rfl ?_
  refine a_l1 rfl rfl rfl ?_
  refine a_eV1 rfl lX12_327 mo_X12_waitingOf (sp_X12_waitingOf hn hd) rfl rfl rfl ⟨12, _, rfl, rfl, rfl⟩ rfl ?_
  refine a_eV1 rfl lX12_330 mo_X12_hoursOf (sp_X12_hoursOf hn hd) rfl rfl rfl ⟨12, _, rfl, rfl, rfl⟩ rfl ?_
  refine a_iret rfl rfl ⟨rfl, rfl⟩
theorem sp_X12_daysFor {S : aS} {h : aH} {a b : Int32} : SpE S m_X12_daysFor 12 [.int a, .int b] (h) (some (.int (daysR a b))) (h) := by
  refine SpE_of ok_X12_daysFor rfl rfl ?_
  show AW S m_X12_daysFor 12 _ _ 0 0 0 [some (.int a), some (.int b)] [] (h)
  refine a_l0 rfl rfl rfl ?_
  refine a_if_ne rfl (fun c1 => ?_) (fun c1 => ?_)
  · refine a_l1 rfl rfl rfl ?_
    refine a_if_ne rfl (fun c7 => ?_) (fun c7 => ?_)
    · refine a_l0 rfl rfl rfl ?_
      refine a_l1 rfl rfl rfl ?_
      refine a_s rfl rfl ?_
      refine a_s rfl rfl ?_
      refine a_s rfl rfl ?_
      refine a_l1 rfl rfl rfl ?_
      refine a_idiv rfl (c7) ?_
      refine a_iret rfl rfl ⟨by simp [daysR, *], rfl⟩
    · refine a_s rfl rfl ?_
      refine a_goto rfl ?_
      refine a_iret rfl rfl ⟨by simp [daysR, *], rfl⟩
  · refine a_s rfl rfl ?_
    refine a_iret rfl rfl ⟨by simp [daysR, *], rfl⟩
theorem sp_X12_needsOf {S : aS} {I : Nat → Nat → Int32} {L : Nat → Nat → Int64} {w1 w2 t : Nat} {nd : Nat} (hn : nd ≤ 12) (hd : I 421 1 = nI nd) {p : Nat} (hp6 : p < 6) : SpE S m_X12_needsOf 17 [.ref 420, .int (nI p)] (hp I L w1 w2 t) (some (.int (daysR (loadR nd (I 421) (nI p)) (vp (I 421) 1 p)))) (hp I L w1 w2 t) := by
  refine SpE_of ok_X12_needsOf rfl rfl ?_
  show AW S m_X12_needsOf 17 _ _ 0 0 0 [some (.ref 420), some (.int (nI p))] [] (hp I L w1 w2 t)
  refine a_l0 rfl rfl rfl ?_
  refine a_l1 rfl rfl rfl ?_
  refine a_eV1 rfl lX12_333 mo_X12_loadOf (sp_X12_loadOf hn hd) rfl rfl rfl ⟨12, _, rfl, rfl, rfl⟩ rfl ?_
  refine a_l0 rfl rfl rfl ?_
  refine a_l1 rfl rfl rfl ?_
  refine a_s rfl rfl ?_
  refine a_eV1 rfl lX12_252 mo_X12_ofPerson (sp_X12_ofPerson (d := p) (k := 1) hp6 (by decide)) rfl rfl rfl ⟨12, _, rfl, rfl, rfl⟩ rfl ?_
  refine a_eS1 rfl lX12_336 mo_X12_daysFor (sp_X12_daysFor) rfl rfl rfl rfl ?_
  refine a_iret rfl rfl ⟨rfl, rfl⟩
theorem sp_X12_placeOf {S : aS} {I : Nat → Nat → Int32} {L : Nat → Nat → Int64} {w1 w2 t : Nat} {nd : Nat} (hn : nd ≤ 12) (hd : I 421 1 = nI nd) {i : Nat} (hi : i < nd) : SpE S m_X12_placeOf 15 [.ref 420, .int (nI i)] (hp I L w1 w2 t) (some (.int (placeF nd (vd (I 421) 5) (vd (I 421) 2) (nI i)))) (hp I L w1 w2 t) := by
  refine SpE_of ok_X12_placeOf rfl rfl ?_
  show AW S m_X12_placeOf 15 _ _ 0 0 0 [some (.ref 420), some (.int (nI i)), none, none] [] (hp I L w1 w2 t)
  refine a_l0 rfl rfl rfl ?_
  refine a_l1 rfl rfl rfl ?_
  refine a_eV1 rfl lX12_135 mo_X12_isWaiting (sp_X12_isWaiting (d := i) (by omega)) rfl rfl rfl ⟨12, _, rfl, rfl, rfl⟩ rfl ?_
  refine a_if_ne rfl (fun c5 => ?_) (fun c5 => ?_)
  · refine a_s rfl rfl ?_
    refine a_s2 rfl rfl rfl rfl rfl rfl ?_
    refine a_s rfl rfl ?_
    refine a_s3 rfl rfl rfl rfl rfl rfl ?_
    refine a_forE (n := nd) (fun j => [some (.ref 420), some (.int (nI i)), some (.int (nI (cntF j (fun d => decide (vd (I 421) 5 d = 0 ∧ (vd (I 421) 2 d < vd (I 421) 2 i ∨ (vd (I 421) 2 d = vd (I 421) 2 i ∧ nI d < nI i))))))), some (.int (nI j))]) (fun j => hp I L w1 w2 t) (by simp [lsub, nI_0, bs, sumF, cntF]) (rfl) ?_ (fun j hj ih14 => ?_)
    · refine a_l3 rfl rfl rfl ?_
      refine a_l0 rfl rfl rfl ?_
      refine a_eV1 rfl lX12_74 mo_X12_duties (sp_X12_duties) rfl rfl rfl ⟨12, _, rfl, rfl, rfl⟩ rfl ?_
      refine a_top hd ?_
      refine a_ic_ge rfl (fun c19 => ?_) (fun c => absurd (Int32.le_refl _) c)
      refine a_l2 rfl rfl rfl ?_
      refine a_iret rfl rfl ⟨by have z := atF_nI (f := vd (I 421) 2) (n := 12) (i := i) (by omega) (by decide); simp_all [placeF, placeC, waitF_nI, bI, bI_0], rfl⟩
    · refine a_l3 rfl rfl rfl ?_
      refine a_l0 rfl rfl rfl ?_
      refine a_eV1 rfl lX12_74 mo_X12_duties (sp_X12_duties) rfl rfl rfl ⟨12, _, rfl, rfl, rfl⟩ rfl ?_
      refine a_top hd ?_
      refine a_ic_ge rfl (fun c => absurd c (nI_ge hj (by omega))) (fun c19 => ?_)
      refine a_l2 rfl rfl rfl ?_
      refine a_l3 rfl rfl rfl ?_
      refine a_l1 rfl rfl rfl ?_
      refine a_ic_eq rfl (fun c25 => ?_) (fun c25 => ?_)
      · refine a_s rfl rfl ?_
        refine a_s rfl rfl ?_
        refine a_s2 rfl rfl rfl rfl rfl rfl ?_
        refine a_i3 rfl rfl rfl ?_
        refine a_goto rfl ?_
        obtain rfl := nI_inj (a := j) (b := i) (by omega) (by omega) c25
        exact a_back ih14 (by rw [cntF_f (n := j) (P := (fun d => decide (vd (I 421) 5 d = 0 ∧ (vd (I 421) 2 d < vd (I 421) 2 j ∨ (vd (I 421) 2 d = vd (I 421) 2 j ∧ nI d < nI j))))) (decide_eq_false fun z => z.2.elim (fun q => Int32.lt_irrefl q) (fun q => Int32.lt_irrefl q.2))]; simp [lsub, nI_1, Int32.add_zero]) rfl
      · refine a_l0 rfl rfl rfl ?_
        refine a_l3 rfl rfl rfl ?_
        refine a_eV1 rfl lX12_135 mo_X12_isWaiting (sp_X12_isWaiting (d := j) (by omega)) rfl rfl rfl ⟨12, _, rfl, rfl, rfl⟩ rfl ?_
        refine a_if_eq rfl (fun c33 => ?_) (fun c33 => ?_)
        · refine a_s rfl rfl ?_
          refine a_s rfl rfl ?_
          refine a_s2 rfl rfl rfl rfl rfl rfl ?_
          refine a_i3 rfl rfl rfl ?_
          refine a_goto rfl ?_
          exact a_back ih14 (by rw [cntF_f (n := j) (P := (fun d => decide (vd (I 421) 5 d = 0 ∧ (vd (I 421) 2 d < vd (I 421) 2 i ∨ (vd (I 421) 2 d = vd (I 421) 2 i ∧ nI d < nI i))))) (decide_eq_false fun z => of_decide_eq_false (bI_f c33) z.1)]; simp [lsub, nI_1, Int32.add_zero]) rfl
        · refine a_l0 rfl rfl rfl ?_
          refine a_l3 rfl rfl rfl ?_
          refine a_l1 rfl rfl rfl ?_
          refine a_eV1 rfl lX12_270 mo_X12_goesAhead (sp_X12_goesAhead (a := j) (b := i) (by omega) (by omega)) rfl rfl rfl ⟨12, _, rfl, rfl, rfl⟩ rfl ?_
          refine a_if_eq rfl (fun c42 => ?_) (fun c42 => ?_)
          · refine a_s rfl rfl ?_
            refine a_s rfl rfl ?_
            refine a_s2 rfl rfl rfl rfl rfl rfl ?_
            refine a_i3 rfl rfl rfl ?_
            refine a_goto rfl ?_
            exact a_back ih14 (by rw [cntF_f (n := j) (P := (fun d => decide (vd (I 421) 5 d = 0 ∧ (vd (I 421) 2 d < vd (I 421) 2 i ∨ (vd (I 421) 2 d = vd (I 421) 2 i ∧ nI d < nI i))))) (decide_eq_false fun z => of_decide_eq_false (bI_f c42) z.2)]; simp [lsub, nI_1, Int32.add_zero]) rfl
          · refine a_s rfl rfl ?_
            refine a_goto rfl ?_
            refine a_s rfl rfl ?_
            refine a_s2 rfl rfl rfl rfl rfl rfl ?_
            refine a_i3 rfl rfl rfl ?_
            refine a_goto rfl ?_
            exact a_back ih14 (by rw [cntF_t (n := j) (P := (fun d => decide (vd (I 421) 5 d = 0 ∧ (vd (I 421) 2 d < vd (I 421) 2 i ∨ (vd (I 421) 2 d = vd (I 421) 2 i ∧ nI d < nI i))))) (decide_eq_true ⟨of_decide_eq_true (bI_t c33), of_decide_eq_true (bI_t c42)⟩)]; simp [lsub, nI_1]) rfl
  · refine a_s rfl rfl ?_
    refine a_iret rfl rfl ⟨by simp_all [placeF, waitF_nI, bI, bI_0], rfl⟩
theorem sp_X12_passesBy {S : aS} {I : Nat → Nat → Int32} {L : Nat → Nat → Int64} {w1 w2 t : Nat} {nd : Nat} (hn : nd ≤ 12) (hd : I 421 1 = nI nd) {i : Nat} (hi : i < nd) : SpE S m_X12_passesBy 15 [.ref 420, .int (nI i)] (hp I L w1 w2 t) (some (.int (passR nd (I 421) i))) (hp I L w1 w2 t) := by
  refine SpE_of ok_X12_passesBy rfl rfl ?_
  show AW S m_X12_passesBy 15 _ _ 0 0 0 [some (.ref 420), some (.int (nI i)), none, none] [] (hp I L w1 w2 t)
  refine a_l0 rfl rfl rfl ?_
  refine a_l1 rfl rfl rfl ?_
  refine a_eV1 rfl lX12_135 mo_X12_isWaiting (sp_X12_isWaiting (d := i) (by omega)) rfl rfl rfl ⟨12, _, rfl, rfl, rfl⟩ rfl ?_
  refine a_if_ne rfl (fun c5 => ?_) (fun c5 => ?_)
  · refine a_s rfl rfl ?_
    refine a_s2 rfl rfl rfl rfl rfl rfl ?_
    refine a_s rfl rfl ?_
    refine a_s3 rfl rfl rfl rfl rfl rfl ?_
    refine a_forE (n := nd) (fun j => [some (.ref 420), some (.int (nI i)), some (.int (nI (cntF j (fun e => decide (vd (I 421) 5 e = 0 ∧ vd (I 421) 2 e ≤ vd (I 421) 2 i))))), some (.int (nI j))]) (fun j => hp I L w1 w2 t) (by simp [lsub, nI_0, bs, sumF, cntF]) (rfl) ?_ (fun j hj ih14 => ?_)
    · refine a_l3 rfl rfl rfl ?_
      refine a_l0 rfl rfl rfl ?_
      refine a_eV1 rfl lX12_74 mo_X12_duties (sp_X12_duties) rfl rfl rfl ⟨12, _, rfl, rfl, rfl⟩ rfl ?_
      refine a_top hd ?_
      refine a_ic_ge rfl (fun c19 => ?_) (fun c => absurd (Int32.le_refl _) c)
      refine a_l0 rfl rfl rfl ?_
      refine a_getq rfl gfX12_13_12 rfl (rfl) ?_
      refine a_s rfl rfl ?_
      refine a_ialdv (v := I 421 7) rfl (n := 2033) rfl ⟨by decide, by decide⟩ rfl ?_
      refine a_l2 rfl rfl rfl ?_
      refine a_s rfl rfl ?_
      refine a_iret rfl rfl ⟨by simp_all [passR, bI, bI_0], rfl⟩
    · refine a_l3 rfl rfl rfl ?_
      refine a_l0 rfl rfl rfl ?_
      refine a_eV1 rfl lX12_74 mo_X12_duties (sp_X12_duties) rfl rfl rfl ⟨12, _, rfl, rfl, rfl⟩ rfl ?_
      refine a_top hd ?_
      refine a_ic_ge rfl (fun c => absurd c (nI_ge hj (by omega))) (fun c19 => ?_)
      refine a_l2 rfl rfl rfl ?_
      refine a_l0 rfl rfl rfl ?_
      refine a_l3 rfl rfl rfl ?_
      refine a_eV1 rfl lX12_135 mo_X12_isWaiting (sp_X12_isWaiting (d := j) (by omega)) rfl rfl rfl ⟨12, _, rfl, rfl, rfl⟩ rfl ?_
      refine a_if_eq rfl (fun c28 => ?_) (fun c28 => ?_)
      · refine a_s rfl rfl ?_
        refine a_s rfl rfl ?_
        refine a_s2 rfl rfl rfl rfl rfl rfl ?_
        refine a_i3 rfl rfl rfl ?_
        refine a_goto rfl ?_
        exact a_back ih14 (by simp_all [lsub, nI_1, bs, cntF, sumF, bI_0, bI, bit_lt (show j < 31 by omega), le_nl, -Int32.not_lt, -Int32.not_le, Int32.add_zero]) rfl
      · refine a_l0 rfl rfl rfl ?_
        refine a_l3 rfl rfl rfl ?_
        refine a_s rfl rfl ?_
        refine a_eV1 rfl lX12_63 mo_X12_of (sp_X12_of (d := j) (k := 2) (by omega) (by decide)) rfl rfl rfl ⟨12, _, rfl, rfl, rfl⟩ rfl ?_
        refine a_l0 rfl rfl rfl ?_
        refine a_l1 rfl rfl rfl ?_
        refine a_s rfl rfl ?_
        refine a_eV1 rfl lX12_63 mo_X12_of (sp_X12_of (d := i) (k := 2) (by omega) (by decide)) rfl rfl rfl ⟨12, _, rfl, rfl, rfl⟩ rfl ?_
        refine a_ic_gt rfl (fun c43 => ?_) (fun c43 => ?_)
        · refine a_s rfl rfl ?_
          refine a_s rfl rfl ?_
          refine a_s2 rfl rfl rfl rfl rfl rfl ?_
          refine a_i3 rfl rfl rfl ?_
          refine a_goto rfl ?_
          exact a_back ih14 (by simp_all [lsub, nI_1, bs, cntF, sumF, bI_0, bI, bit_lt (show j < 31 by omega), le_nl, -Int32.not_lt, -Int32.not_le, Int32.add_zero]) rfl
        · refine a_s rfl rfl ?_
          refine a_goto rfl ?_
          refine a_s rfl rfl ?_
          refine a_s2 rfl rfl rfl rfl rfl rfl ?_
          refine a_i3 rfl rfl rfl ?_
          refine a_goto rfl ?_
          exact a_back ih14 (by simp_all [lsub, nI_1, bs, cntF, sumF, bI_0, bI, bit_lt (show j < 31 by omega), le_nl, -Int32.not_lt, -Int32.not_le, Int32.add_zero]) rfl
  · refine a_s rfl rfl ?_
    refine a_iret rfl rfl ⟨by simp_all [passR, bI, bI_0], rfl⟩
theorem sp_X12_canBeCalled {S : aS} {I : Nat → Nat → Int32} {L : Nat → Nat → Int64} {w1 w2 t : Nat} {nd : Nat} (hn : nd ≤ 12) (hd : I 421 1 = nI nd) (hl : LeW nd (I 421)) {i : Nat} (hi : i < nd) : SpE S m_X12_canBeCalled 17 [.ref 420, .int (nI i)] (hp I L w1 w2 t) (some (.int (bI (canR nd (I 421) i)))) (hp I L w1 w2 t) := by
  refine SpE_of ok_X12_canBeCalled rfl rfl ?_
  show AW S m_X12_canBeCalled 17 _ _ 0 0 0 [some (.ref 420), some (.int (nI i))] [] (hp I L w1 w2 t)
  refine a_l0 rfl rfl rfl ?_
  refine a_l1 rfl rfl rfl ?_
  refine a_eV1 rfl lX12_273 mo_X12_isReady (sp_X12_isReady hn hi hl) rfl rfl rfl ⟨12, _, rfl, rfl, rfl⟩ rfl ?_
  refine a_if_eq rfl (fun c5 => ?_) (fun c5 => ?_)
  · refine a_s rfl rfl ?_
    refine a_zret rfl rfl rfl ⟨by simp_all [canR, readyR, bI, bI_0, le_nl, -Int32.not_lt, -Int32.not_le], rfl⟩
  · refine a_l0 rfl rfl rfl ?_
    refine a_l1 rfl rfl rfl ?_
    refine a_s rfl rfl ?_
    refine a_eV1 rfl lX12_63 mo_X12_of (sp_X12_of (d := i) (k := 1) (by omega) (by decide)) rfl rfl rfl ⟨12, _, rfl, rfl, rfl⟩ rfl ?_
    refine a_l0 rfl rfl rfl ?_
    refine a_l1 rfl rfl rfl ?_
    refine a_eV1 rfl lX12_276 mo_X12_passesBy (sp_X12_passesBy hn hd hi) rfl rfl rfl ⟨12, _, rfl, rfl, rfl⟩ rfl ?_
    refine a_ic_gt rfl (fun c19 => ?_) (fun c19 => ?_)
    · refine a_s rfl rfl ?_
      refine a_zret rfl rfl rfl ⟨by simp_all [canR, readyR, bI, bI_0, le_nl, -Int32.not_lt, -Int32.not_le], rfl⟩
    · refine a_s rfl rfl ?_
      refine a_goto rfl ?_
      refine a_zret rfl rfl rfl ⟨by simp_all [canR, readyR, bI, bI_0, le_nl, -Int32.not_lt, -Int32.not_le], rfl⟩
theorem sp_X12_canOnes {S : aS} {I : Nat → Nat → Int32} {L : Nat → Nat → Int64} {w1 w2 t : Nat} {nd : Nat} (hn : nd ≤ 12) (hd : I 421 1 = nI nd) (hl : LeW nd (I 421)) : SpE S m_X12_canOnes 18 [.ref 420] (hp I L w1 w2 t) (some (.int (bs nd (canR nd (I 421))))) (hp I L w1 w2 t) := by
  refine SpE_of ok_X12_canOnes rfl rfl ?_
  show AW S m_X12_canOnes 18 _ _ 0 0 0 [some (.ref 420), none, none] [] (hp I L w1 w2 t)
  refine a_s rfl rfl ?_
  refine a_s1 rfl rfl rfl rfl rfl rfl ?_
  refine a_s rfl rfl ?_
  refine a_s2 rfl rfl rfl rfl rfl rfl ?_
  refine a_forE (n := nd) (fun j => [some (.ref 420), some (.int (bs j (canR nd (I 421)))), some (.int (nI j))]) (fun j => hp I L w1 w2 t) (by simp [lsub, nI_0, bs, sumF, cntF]) (rfl) ?_ (fun j hj ih4 => ?_)
  · refine a_l2 rfl rfl rfl ?_
    refine a_l0 rfl rfl rfl ?_
    refine a_eV1 rfl lX12_74 mo_X12_duties (sp_X12_duties) rfl rfl rfl ⟨12, _, rfl, rfl, rfl⟩ rfl ?_
    refine a_top hd ?_
    refine a_ic_ge rfl (fun c9 => ?_) (fun c => absurd (Int32.le_refl _) c)
    refine a_l1 rfl rfl rfl ?_
    refine a_iret rfl rfl ⟨rfl, rfl⟩
  · refine a_l2 rfl rfl rfl ?_
    refine a_l0 rfl rfl rfl ?_
    refine a_eV1 rfl lX12_74 mo_X12_duties (sp_X12_duties) rfl rfl rfl ⟨12, _, rfl, rfl, rfl⟩ rfl ?_
    refine a_top hd ?_
    refine a_ic_ge rfl (fun c => absurd c (nI_ge hj (by omega))) (fun c9 => ?_)
    refine a_l1 rfl rfl rfl ?_
    refine a_l0 rfl rfl rfl ?_
    refine a_l2 rfl rfl rfl ?_
    refine a_eV1 rfl lX12_280 mo_X12_canBeCalled (sp_X12_canBeCalled hn hd hl hj) rfl rfl rfl ⟨12, _, rfl, rfl, rfl⟩ rfl ?_
    refine a_if_eq rfl (fun c18 => ?_) (fun c18 => ?_)
    · refine a_s rfl rfl ?_
      refine a_s rfl rfl ?_
      refine a_s1 rfl rfl rfl rfl rfl rfl ?_
      refine a_i2 rfl rfl rfl ?_
      refine a_goto rfl ?_
      exact a_back ih4 (by simp_all [lsub, nI_1, bs, cntF, sumF, bI_0, bI, bit_lt (show j < 31 by omega)]) rfl
    · refine a_s rfl rfl ?_
      refine a_l2 rfl rfl rfl ?_
      refine a_s rfl rfl ?_
      refine a_goto rfl ?_
      refine a_s rfl rfl ?_
      refine a_s1 rfl rfl rfl rfl rfl rfl ?_
      refine a_i2 rfl rfl rfl ?_
      refine a_goto rfl ?_
      exact a_back ih4 (by simp_all [lsub, nI_1, bs, cntF, sumF, bI_0, bI, bit_lt (show j < 31 by omega)]) rfl
theorem sp_X12_whereAt {S : aS} {I : Nat → Nat → Int32} {L : Nat → Nat → Int64} {w1 w2 t : Nat} {nd : Nat} (hn : nd ≤ 12) (hd : I 421 1 = nI nd) {i : Nat} (hi : i < nd) (h7 : ¬ I 421 7 = 0) {x : Int32} : SpE S m_X12_whereAt 16 [.ref 420, .int (nI i), .int x] (hp I L w1 w2 t) (some (.int (whereR nd (I 421) i x))) (hp I L w1 w2 t) := by
  refine SpE_of ok_X12_whereAt rfl rfl ?_
  show AW S m_X12_whereAt 16 _ _ 0 0 0 [some (.ref 420), some (.int (nI i)), some (.int x), none] [] (hp I L w1 w2 t)
  refine a_l0 rfl rfl rfl ?_
  refine a_l1 rfl rfl rfl ?_
  refine a_eV1 rfl lX12_135 mo_X12_isWaiting (sp_X12_isWaiting (d := i) (by omega)) rfl rfl rfl ⟨12, _, rfl, rfl, rfl⟩ rfl ?_
  refine a_if_ne rfl (fun c5 => ?_) (fun c5 => ?_)
  · refine a_l2 rfl rfl rfl ?_
    refine a_l0 rfl rfl rfl ?_
    refine a_getq rfl gfX12_13_12 rfl (rfl) ?_
    refine a_s rfl rfl ?_
    refine a_ialdv (v := I 421 7) rfl (n := 2033) rfl ⟨by decide, by decide⟩ rfl ?_
    refine a_idiv rfl (h7) ?_
    refine a_l0 rfl rfl rfl ?_
    refine a_l1 rfl rfl rfl ?_
    refine a_eV1 rfl lX12_283 mo_X12_placeOf (sp_X12_placeOf hn hd hi) rfl rfl rfl ⟨12, _, rfl, rfl, rfl⟩ rfl ?_
    refine a_s rfl rfl ?_
    refine a_s3 rfl rfl rfl rfl rfl rfl ?_
    refine a_l3 rfl rfl rfl ?_
    refine a_if_ge rfl (fun c27 => ?_) (fun c27 => ?_)
    · refine a_s rfl rfl ?_
      refine a_l3 rfl rfl rfl ?_
      refine a_min rfl lX12_295 mj_min rfl rfl ?_
      refine a_iret rfl rfl ⟨by simp_all [whereR, bI, bI_0, le_nl, -Int32.not_lt, -Int32.not_le], rfl⟩
    · refine a_s rfl rfl ?_
      refine a_goto rfl ?_
      refine a_iret rfl rfl ⟨by simp_all [whereR, bI, bI_0, le_nl, -Int32.not_lt, -Int32.not_le], rfl⟩
  · refine a_s rfl rfl ?_
    refine a_iret rfl rfl ⟨by simp_all [whereR, bI, bI_0], rfl⟩
end
section
/-! ===== codes of conditions: one machine for both (pure) ===== -/
def jnF (c : Nat) (x y : Int32) : Int32 := if c = 2000 then x + y else if c = 2001 then (if x < y then 1 else 0) else if c = 2002 then (if y < x then 1 else 0) else if c = 2004 then x &&& y else x ||| y
def stpF (F : Nat → Int32) (c : Nat) (s : List Int32) : List Int32 :=
  if c < 1000 then nI c :: s else if c < 2000 then F (c - 1000) :: s
  else if c = 2003 then (match s with | [] => [] | x :: r => (1 - x) :: r)
  else match s with | y :: x :: r => jnF c x y :: r | r => r
def runF (F : Nat → Int32) (cd : Nat → Nat) (a : Nat) : Nat → List Int32
  | 0 => []
  | n + 1 => stpF F (cd (a + n)) (runF F cd a n)
/-- kinds on the stack: true a truth, false a number -/
def tyS (c : Nat) (s : List Bool) : Option (List Bool) :=
  if c < 1007 then some (false :: s) else if c < 1009 then some (true :: s)
  else if c = 2000 then (match s with | false :: false :: r => some (false :: r) | _ => none)
  else if c = 2001 ∨ c = 2002 then (match s with | false :: false :: r => some (true :: r) | _ => none)
  else if c = 2003 then (match s with | true :: r => some (true :: r) | _ => none)
  else if c = 2004 ∨ c = 2005 then (match s with | true :: true :: r => some (true :: r) | _ => none)
  else none
def tyR (cd : Nat → Nat) (a : Nat) : Nat → Option (List Bool)
  | 0 => some []
  | n + 1 => (tyR cd a n).bind (tyS (cd (a + n)))
/-- each truth is 0 or 1 -/
def VOK : List Int32 → List Bool → Prop
  | [], [] => True
  | x :: s, b :: t => (b = true → x = 0 ∨ x = 1) ∧ VOK s t
  | _, _ => False
theorem VOK.len {s : List Int32} {t : List Bool} (h : VOK s t) : s.length = t.length := by
  induction s generalizing t with
  | nil => cases t with
    | nil => rfl
    | cons b t => exact False.elim h
  | cons x s ih => cases t with
    | nil => exact False.elim h
    | cons b t => exact congrArg (· + 1) (ih h.2)
theorem or01 {x y : Int32} (hx : x = 0 ∨ x = 1) (hy : y = 0 ∨ y = 1) : (x ||| y = 0 ∨ x ||| y = 1) ∧ (x &&& y = 0 ∨ x &&& y = 1) := by
  rcases hx with rfl | rfl <;> rcases hy with rfl | rfl <;> decide
/-- what a typed code finds: nothing to find, a truth, two of one kind -/
theorem tyS_not {s t' : List Bool} (h : tyS 2003 s = some t') : ∃ r, s = true :: r ∧ t' = true :: r := by
  unfold tyS at h
  rcases s with _ | ⟨_ | _, r⟩
  · cases h
  · cases h
  · cases h
    exact ⟨_, rfl, rfl⟩
theorem tyS_two {c : Nat} {s t' : List Bool} (h1 : ¬ c < 1009) (h2 : ¬ c = 2003) (h : tyS c s = some t') : ∃ b b' r, s = b :: b :: r ∧ t' = b' :: r ∧ ((c = 2000 ∧ b = false ∧ b' = false) ∨ ((c = 2001 ∨ c = 2002) ∧ b = false ∧ b' = true) ∨ ((c = 2004 ∨ c = 2005) ∧ b = true ∧ b' = true)) := by
  unfold tyS at h
  rw [if_neg (by omega), if_neg h1] at h
  by_cases e1 : c = 2000
  · rw [if_pos e1] at h
    rcases s with _ | ⟨_ | _, _ | ⟨_ | _, r⟩⟩ <;> first | (cases h; done) | skip
    cases h
    exact ⟨false, false, r, rfl, rfl, Or.inl ⟨e1, rfl, rfl⟩⟩
  · rw [if_neg e1] at h
    by_cases e2 : c = 2001 ∨ c = 2002
    · rw [if_pos e2] at h
      rcases s with _ | ⟨_ | _, _ | ⟨_ | _, r⟩⟩ <;> first | (cases h; done) | skip
      cases h
      exact ⟨false, true, r, rfl, rfl, Or.inr (Or.inl ⟨e2, rfl, rfl⟩)⟩
    · rw [if_neg e2, if_neg h2] at h
      by_cases e3 : c = 2004 ∨ c = 2005
      · rw [if_pos e3] at h
        rcases s with _ | ⟨_ | _, _ | ⟨_ | _, r⟩⟩ <;> first | (cases h; done) | skip
        cases h
        exact ⟨true, true, r, rfl, rfl, Or.inr (Or.inr ⟨e3, rfl, rfl⟩)⟩
      · rw [if_neg e3] at h
        cases h
theorem VOK.step {F : Nat → Int32} {c : Nat} {s : List Int32} {t t' : List Bool} (hF : ∀ k, k = 7 ∨ k = 8 → F k = 0 ∨ F k = 1) (h : VOK s t) (ht : tyS c t = some t') : VOK (stpF F c s) t' := by
  by_cases h1 : c < 1009
  · by_cases h2 : c < 1007
    · have e : t' = false :: t := by
        unfold tyS at ht
        rw [if_pos h2] at ht
        exact (Option.some.inj ht).symm
      subst e
      unfold stpF
      by_cases h3 : c < 1000
      · rw [if_pos h3]
        exact ⟨fun z => (by cases z), h⟩
      · rw [if_neg h3, if_pos (by omega)]
        exact ⟨fun z => (by cases z), h⟩
    · have e : t' = true :: t := by
        unfold tyS at ht
        rw [if_neg h2, if_pos h1] at ht
        exact (Option.some.inj ht).symm
      subst e
      unfold stpF
      rw [if_neg (by omega), if_pos (by omega)]
      exact ⟨fun _ => hF _ (by omega), h⟩
  · by_cases h2 : c = 2003
    · subst h2
      obtain ⟨r, rfl, rfl⟩ := tyS_not ht
      rcases s with _ | ⟨x, s⟩
      · exact False.elim h
      · refine ⟨fun _ => ?_, h.2⟩
        rcases h.1 rfl with rfl | rfl <;> decide
    · obtain ⟨b, b', r, rfl, rfl, hc⟩ := tyS_two h1 h2 ht
      rcases s with _ | ⟨y, _ | ⟨x, s⟩⟩
      · exact False.elim h
      · exact False.elim h.2
      · unfold stpF
        rw [if_neg (by omega), if_neg (by omega), if_neg h2]
        refine ⟨fun hb => ?_, h.2.2⟩
        rcases hc with ⟨_, _, e⟩ | ⟨e, _, _⟩ | ⟨e, e2, _⟩
        · rw [e] at hb; cases hb
        · rcases e with rfl | rfl
          · show (if x < y then (1 : Int32) else 0) = 0 ∨ (if x < y then (1 : Int32) else 0) = 1
            split <;> simp
          · show (if y < x then (1 : Int32) else 0) = 0 ∨ (if y < x then (1 : Int32) else 0) = 1
            split <;> simp
        · have o := or01 (h.2.1 e2) (h.1 e2)
          rcases e with rfl | rfl
          · exact o.2
          · exact o.1
theorem VOK.run {F : Nat → Int32} {cd : Nat → Nat} {a n : Nat} {t : List Bool} (hF : ∀ k, k = 7 ∨ k = 8 → F k = 0 ∨ F k = 1) (ht : tyR cd a n = some t) : VOK (runF F cd a n) t := by
  induction n generalizing t with
  | zero =>
    cases ht
    trivial
  | succ n ih =>
    unfold tyR at ht
    cases h : tyR cd a n with
    | none => rw [h] at ht; cases ht
    | some t0 =>
      rw [h] at ht
      exact VOK.step hF (ih h) ht
/-- a stack in a row, its last one at the place of its length less 1 -/
def Stk : List Int32 → (Nat → Int32) → Prop
  | [], _ => True
  | x :: r, f => f r.length = x ∧ Stk r f
theorem Stk.upd {s : List Int32} {f g : Nat → Int32} (h : Stk s f) (e : ∀ k, k < s.length → g k = f k) : Stk s g := by
  induction s with
  | nil => trivial
  | cons x r ih => exact ⟨(e _ (Nat.lt_succ_self _)).trans h.1, ih h.2 fun k hk => e k (Nat.lt_succ_of_lt hk)⟩
/-- a line's codes: from a on n of them, typed, never deep -/
def LineOk (cd : Nat → Nat) (a n : Nat) : Prop := (tyR cd a n = some [] ∨ tyR cd a n = some [true]) ∧ ∀ j, j ≤ n → ∃ t, tyR cd a j = some t ∧ t.length ≤ 24
def lineF (F : Nat → Int32) (cd : Nat → Nat) (a n : Nat) : Bool := match runF F cd a n with | [] => true | x :: _ => decide (¬ x = 0)
end
