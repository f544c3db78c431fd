/-! NUMBERS AND THE INVARIANT OF THE CLASS -/
theorem zk {x : Int32} (a : Int) (h : x.toInt = a) : x.toInt = a := h
theorem z_lt {x y : Int32} {a b : Int} (hx : x.toInt = a) (hy : y.toInt = b) (h : x < y) : a < b := by rw [← hx, ← hy]; exact Int32.lt_iff_toInt_lt.mp h
theorem z_le {x y : Int32} {a b : Int} (hx : x.toInt = a) (hy : y.toInt = b) (h : x ≤ y) : a ≤ b := by rw [← hx, ← hy]; exact Int32.le_iff_toInt_le.mp h
theorem z_nlt {x y : Int32} {a b : Int} (hx : x.toInt = a) (hy : y.toInt = b) (h : ¬ x < y) : b ≤ a := z_le hy hx (Int32.not_lt.mp h)
theorem z_nle {x y : Int32} {a b : Int} (hx : x.toInt = a) (hy : y.toInt = b) (h : ¬ x ≤ y) : b < a := z_lt hy hx (Int32.not_le.mp h)
theorem z_eq {x y : Int32} {a b : Int} (hx : x.toInt = a) (hy : y.toInt = b) (h : x = y) : a = b := by rw [← hx, ← hy, h]
theorem z_ne {x y : Int32} {a b : Int} (hx : x.toInt = a) (hy : y.toInt = b) (h : ¬ x = y) : a ≠ b := by rw [← hx, ← hy]; exact fun q => h (Int32.toInt_inj.mp q)
theorem z_bm {a : Int} (h1 : -2147483648 ≤ a) (h2 : a ≤ 2147483647) : a.bmod (2 ^ 32) = a := Int.bmod_eq_of_le (by omega) (by omega)
theorem z_add {x y r : Int32} {a b : Int} (he : r = x + y) (hx : x.toInt = a) (hy : y.toInt = b) (h1 : -2147483648 ≤ a + b) (h2 : a + b ≤ 2147483647) : r.toInt = a + b := by
  rw [he, Int32.toInt_add, hx, hy]; exact z_bm h1 h2
theorem z_sub {x y r : Int32} {a b : Int} (he : r = x - y) (hx : x.toInt = a) (hy : y.toInt = b) (h1 : -2147483648 ≤ a - b) (h2 : a - b ≤ 2147483647) : r.toInt = a - b := by
  rw [he, Int32.toInt_sub, hx, hy]; exact z_bm h1 h2
theorem z_mul {x y r : Int32} {a b : Int} (he : r = x * y) (hx : x.toInt = a) (hy : y.toInt = b) (h1 : -2147483648 ≤ a * b) (h2 : a * b ≤ 2147483647) : r.toInt = a * b := by
  rw [he, Int32.toInt_mul, hx, hy]; exact z_bm h1 h2
theorem z_nat {x : Int32} {a : Int} (hx : x.toInt = a) : x.toNatClampNeg = a.toNat := by rw [← hx]; rfl
theorem z_in {x : Int32} {a : Int} {n : Nat} (hx : x.toInt = a) (h0 : 0 ≤ a) (h1 : a < n) : vp_in x n := by
  intro h
  rcases h with h | h
  · have := z_lt hx (zk (x := 0) 0 rfl) h; omega
  · rw [z_nat hx] at h; omega
theorem z_n0 {x : Int32} {a : Int} (hx : x.toInt = a) (h : a ≠ 0) : ¬ x = 0 := fun q => h (z_eq hx (zk (x := 0) 0 rfl) q)
theorem z_min {x y r : Int32} {a b : Int} (he : r = if y < x then y else x) (hx : x.toInt = a) (hy : y.toInt = b) : (r.toInt = a ∧ a ≤ b) ∨ (r.toInt = b ∧ b ≤ a) := by
  by_cases h : y < x
  · rw [if_pos h] at he; have := z_lt hy hx h; subst he; exact Or.inr ⟨hy, by omega⟩
  · rw [if_neg h] at he; have := z_nlt hy hx h; subst he; exact Or.inl ⟨hx, by omega⟩
theorem z_max {x y r : Int32} {a b : Int} (he : r = if x < y then y else x) (hx : x.toInt = a) (hy : y.toInt = b) : (r.toInt = a ∧ b ≤ a) ∨ (r.toInt = b ∧ a ≤ b) := by
  by_cases h : x < y
  · rw [if_pos h] at he; have := z_lt hx hy h; subst he; exact Or.inr ⟨hy, by omega⟩
  · rw [if_neg h] at he; have := z_nlt hx hy h; subst he; exact Or.inl ⟨hx, by omega⟩
theorem z_rg (x : Int32) : -2147483648 ≤ x.toInt ∧ x.toInt ≤ 2147483647 := ⟨Int32.le_toInt x, by have := Int32.toInt_lt x; omega⟩
theorem z_of (n : Nat) (h : n < 2147483648) : (Int32.ofNat n).toInt = n := Int32.toInt_ofNat_of_lt h
theorem z_and {x y : Int32} {b : Int} (hy : y.toInt = b) (h0 : 0 ≤ b) : 0 ≤ (x &&& y).toInt ∧ (x &&& y).toInt ≤ b := by
  have e1 : ∀ z : Int32, 0 ≤ z.toInt → z.toInt = (z.toBitVec.toNat : Int) := by
    intro z hz
    have h1 : z.toInt = z.toBitVec.toInt := rfl
    rw [h1] at hz ⊢
    rw [BitVec.toInt_eq_toNat_cond] at hz ⊢
    split at hz <;> split <;> omega
  have hb : y.toInt = (y.toBitVec.toNat : Int) := e1 y (by omega)
  have hle : (x &&& y).toBitVec.toNat ≤ y.toBitVec.toNat := by
    have : (x &&& y).toBitVec = x.toBitVec &&& y.toBitVec := rfl
    rw [this, BitVec.toNat_and]; exact Nat.and_le_right
  have hy31 : y.toBitVec.toNat < 2147483648 := by have := (z_rg y).2; omega
  have h2 : (x &&& y).toInt = ((x &&& y).toBitVec.toNat : Int) := by
    have h1 : (x &&& y).toInt = (x &&& y).toBitVec.toInt := rfl
    rw [h1, BitVec.toInt_eq_toNat_cond]
    split
    · rfl
    · omega
  omega
def upc (c : Nat → Int) (i : Nat) (x : Int) : Nat → Int := fun j => if j = i then x else c j
theorem upc_i {c : Nat → Int} {i : Nat} {x : Int} : upc c i x i = x := if_pos rfl
theorem upc_o {c : Nat → Int} {i j : Nat} {x : Int} (h : j ≠ i) : upc c i x j = c j := if_neg h
theorem upc_2 {c : Nat → Int} {i : Nat} {x z : Int} : upc (upc c i x) i z = upc c i z := by
  funext j; unfold upc; by_cases h : j = i
  · rw [if_pos h, if_pos h]
  · rw [if_neg h, if_neg h, if_neg h]
def fx (a τ : Nat → Nat) : Prop := ∀ j ∈ fxs, τ (a j) = 10 + j
theorem fx_ne {a τ : Nat → Nat} (h : fx a τ) {i j : Nat} (hi : i ∈ fxs) (hj : j ∈ fxs) (hn : i ≠ j) : a i ≠ a j := fun e => by
  have h1 := h i hi; have h2 := h j hj; rw [e, h2] at h1; omega
theorem kd_ne {τ : Nat → Nat} {p q s t : Nat} (hp : τ p = s) (hq : τ q = t) (hn : s ≠ t) : p ≠ q := fun e => hn (by rw [← hp, ← hq, e])
def ic_eq (a : Nat → Nat) (c : Nat → Int) (y : Nat → Nat → Int32) : Prop := (y (a 1) 1).toInt = c 0 ∧ (y (a 1) 3).toInt = c 1 ∧ (y (a 1) 5).toInt = c 2 ∧ (y (a 1) 7).toInt = c 3 ∧ (y (a 2) 1).toInt = c 4 ∧ (y (a 5) 4).toInt = c 5 ∧ (y (a 0) 7).toInt = c 6 ∧ (y (a 0) 9).toInt = c 7 ∧ (y (a 5) 5).toInt = c 8
def ic_rg (c : Nat → Int) : Prop := (0 ≤ c 0 ∧ c 0 ≤ 4) ∧ (0 ≤ c 1 ∧ c 1 ≤ 8) ∧ (0 ≤ c 2 ∧ c 2 ≤ 30) ∧ (0 ≤ c 3 ∧ c 3 ≤ 30) ∧ (0 ≤ c 4 ∧ c 4 ≤ 20) ∧ (0 ≤ c 5 ∧ c 5 ≤ 40) ∧ (0 ≤ c 6 ∧ c 6 ≤ 100) ∧ (0 ≤ c 7 ∧ c 7 ≤ 8)
def ic_li (n : Int) (t : Nat) (τ : Nat → Nat) (f : Nat → Option Nat) : Prop := ∀ j : Nat, (j : Int) < n → ∃ q, f j = some q ∧ τ q = t
def ic_ls (a : Nat → Nat) (c : Nat → Int) (τ : Nat → Nat) (g : Nat → Nat → Option Nat) : Prop := ic_li (c 1) 1 τ (g (a 10)) ∧ ic_li (c 2) 2 τ (g (a 11)) ∧ ic_li (c 3) 3 τ (g (a 12)) ∧ ic_li (c 4) 5 τ (g (a 13)) ∧ ic_li 4 5 τ (g (a 15)) ∧ ic_li (c 5) 4 τ (g (a 40))
def ic_ru (τ ln : Nat → Nat) (g : Nat → Nat → Option Nat) : Prop := ∀ q, τ q = 5 → ∃ q2, g q 2 = some q2 ∧ τ q2 = 6 ∧ ln q2 ≤ 60
def ic_co (τ : Nat → Nat) (y : Nat → Nat → Int32) : Prop := ∀ q, τ q = 4 → 0 ≤ (y q 0).toInt ∧ (y q 0).toInt < 30
def IC (a : Nat → Nat) (c : Nat → Int) (τ ln : Nat → Nat) (y : Nat → Nat → Int32) (g : Nat → Nat → Option Nat) : Prop := fx a τ ∧ ic_eq a c y ∧ ic_rg c ∧ ic_ls a c τ g ∧ ic_ru τ ln g ∧ ic_co τ y
section ICS
variable {a : Nat → Nat} {c : Nat → Int} {τ ln : Nat → Nat} {y y' : Nat → Nat → Int32} {g : Nat → Nat → Option Nat}
theorem IC.ag (h : IC a c τ ln y g) {S : List Nat} (hg : ag τ S y y') (hS : 10 ∉ S ∧ 11 ∉ S ∧ 12 ∉ S ∧ 15 ∉ S ∧ 4 ∉ S) : IC a c τ ln y' g := by
  obtain ⟨hx, he, hr, hl, hu, hc⟩ := h
  have e0 := hg.at (hx 0 (by decide)) hS.1
  have e1 := hg.at (hx 1 (by decide)) hS.2.1
  have e2 := hg.at (hx 2 (by decide)) hS.2.2.1
  have e5 := hg.at (hx 5 (by decide)) hS.2.2.2.1
  refine ⟨hx, ?_, hr, hl, hu, fun q hq => ?_⟩
  · unfold ic_eq; rw [e0, e1, e2, e5]; exact he
  · rw [hg.at hq hS.2.2.2.2]; exact hc q hq
theorem ic_0 (h : IC a c τ ln y g) : (y (a 1) 1).toInt = c 0 := h.2.1.1
theorem ic_1 (h : IC a c τ ln y g) : (y (a 1) 3).toInt = c 1 := h.2.1.2.1
theorem ic_2 (h : IC a c τ ln y g) : (y (a 1) 5).toInt = c 2 := h.2.1.2.2.1
theorem ic_3 (h : IC a c τ ln y g) : (y (a 1) 7).toInt = c 3 := h.2.1.2.2.2.1
theorem ic_4 (h : IC a c τ ln y g) : (y (a 2) 1).toInt = c 4 := h.2.1.2.2.2.2.1
theorem ic_5 (h : IC a c τ ln y g) : (y (a 5) 4).toInt = c 5 := h.2.1.2.2.2.2.2.1
theorem ic_6 (h : IC a c τ ln y g) : (y (a 0) 7).toInt = c 6 := h.2.1.2.2.2.2.2.2.1
theorem ic_7 (h : IC a c τ ln y g) : (y (a 0) 9).toInt = c 7 := h.2.1.2.2.2.2.2.2.2.1
theorem ic_8 (h : IC a c τ ln y g) : (y (a 5) 5).toInt = c 8 := h.2.1.2.2.2.2.2.2.2.2
theorem ic_r (h : IC a c τ ln y g) : (0 ≤ c 0 ∧ c 0 ≤ 4) ∧ (0 ≤ c 1 ∧ c 1 ≤ 8) ∧ (0 ≤ c 2 ∧ c 2 ≤ 30) ∧ (0 ≤ c 3 ∧ c 3 ≤ 30) ∧ (0 ≤ c 4 ∧ c 4 ≤ 20) ∧ (0 ≤ c 5 ∧ c 5 ≤ 40) ∧ (0 ≤ c 6 ∧ c 6 ≤ 100) ∧ (0 ≤ c 7 ∧ c 7 ≤ 8) := h.2.2.1
theorem ic_l10 (h : IC a c τ ln y g) {x : Int32} {z : Int} (hx : x.toInt = z) (h0 : 0 ≤ z) (h1 : z < c 1) : ∃ q, g (a 10) x.toNatClampNeg = some q ∧ τ q = 1 := h.2.2.2.1.1 _ (by rw [z_nat hx]; omega)
theorem ic_l11 (h : IC a c τ ln y g) {x : Int32} {z : Int} (hx : x.toInt = z) (h0 : 0 ≤ z) (h1 : z < c 2) : ∃ q, g (a 11) x.toNatClampNeg = some q ∧ τ q = 2 := h.2.2.2.1.2.1 _ (by rw [z_nat hx]; omega)
theorem ic_l12 (h : IC a c τ ln y g) {x : Int32} {z : Int} (hx : x.toInt = z) (h0 : 0 ≤ z) (h1 : z < c 3) : ∃ q, g (a 12) x.toNatClampNeg = some q ∧ τ q = 3 := h.2.2.2.1.2.2.1 _ (by rw [z_nat hx]; omega)
theorem ic_l13 (h : IC a c τ ln y g) {x : Int32} {z : Int} (hx : x.toInt = z) (h0 : 0 ≤ z) (h1 : z < c 4) : ∃ q, g (a 13) x.toNatClampNeg = some q ∧ τ q = 5 := h.2.2.2.1.2.2.2.1 _ (by rw [z_nat hx]; omega)
theorem ic_l15 (h : IC a c τ ln y g) {x : Int32} {z : Int} (hx : x.toInt = z) (h0 : 0 ≤ z) (h1 : z < 4) : ∃ q, g (a 15) x.toNatClampNeg = some q ∧ τ q = 5 := h.2.2.2.1.2.2.2.2.1 _ (by rw [z_nat hx]; omega)
theorem ic_l40 (h : IC a c τ ln y g) {x : Int32} {z : Int} (hx : x.toInt = z) (h0 : 0 ≤ z) (h1 : z < c 5) : ∃ q, g (a 40) x.toNatClampNeg = some q ∧ τ q = 4 := h.2.2.2.1.2.2.2.2.2 _ (by rw [z_nat hx]; omega)
theorem ic_rul (h : IC a c τ ln y g) {q : Nat} (hq : τ q = 5) : ∃ q2, g q 2 = some q2 ∧ τ q2 = 6 ∧ ln q2 ≤ 60 := h.2.2.2.2.1 q hq
theorem ic_cor (h : IC a c τ ln y g) {q : Nat} (hq : τ q = 4) : 0 ≤ (y q 0).toInt ∧ (y q 0).toInt < 30 := h.2.2.2.2.2 q hq
end ICS
theorem zl0 {x : Int32} {z : Int} (h : x.toInt = z) (h0 : 0 ≤ z) : 0 ≤ x.toInt := by rw [h]; exact h0
theorem zlt {x : Int32} {z n : Int} (h : x.toInt = z) (h0 : z < n) : x.toInt < n := by rw [h]; exact h0
