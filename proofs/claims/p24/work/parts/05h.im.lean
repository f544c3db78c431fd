/-! THE INVARIANT OF THE REFERENCE -/
def vb (n lo hi : Int) (f : Nat → Int32) : Prop := ∀ i : Nat, (i : Int) < n → lo ≤ (f i).toInt ∧ (f i).toInt ≤ hi
theorem vb_at {n lo hi : Int} {f : Nat → Int32} (h : vb n lo hi f) {x : Int32} {z : Int} (hx : x.toInt = z) (h0 : 0 ≤ z) (h1 : z < n) : lo ≤ (f x.toNatClampNeg).toInt ∧ (f x.toNatClampNeg).toInt ≤ hi := h _ (by rw [z_nat hx]; omega)
theorem vb_up {n lo hi : Int} {f : Nat → Int32} {i x : Int32} {z : Int} (h : vb n lo hi f) (hi0 : i.toInt = n) (hn : 0 ≤ n) (hx : x.toInt = z) (h1 : lo ≤ z) (h2 : z ≤ hi) : vb (n + 1) lo hi (upd f i.toNatClampNeg x) := fun j hj => by
  by_cases e : j = i.toNatClampNeg
  · rw [show upd f i.toNatClampNeg x j = x from if_pos e, hx]; exact ⟨h1, h2⟩
  · rw [show upd f i.toNatClampNeg x j = f j from if_neg e]
    exact h j (by rw [z_nat hi0] at e; omega)
theorem vb_o {n lo hi : Int} {f : Nat → Int32} {i x : Int32} (h : vb n lo hi f) (hi0 : i.toInt = n) (hn : 0 ≤ n) : vb n lo hi (upd f i.toNatClampNeg x) := fun j hj => by
  rw [show upd f i.toNatClampNeg x j = f j from if_neg (by rw [z_nat hi0]; omega)]; exact h j hj
def iwA (nP : Int) (f : Nat → Int32) (h : Nat) : Prop := (f (1 + 6 * h)).toInt = -1 ∨ ((0 ≤ (f (1 + 6 * h)).toInt ∧ (f (1 + 6 * h)).toInt < nP) ∧ 5 ≤ (f (2 + 6 * h)).toInt ∧ (f (2 + 6 * h)).toInt ≤ 200)
def IW (nH nP now : Int) (f : Nat → Int32) : Prop := (f 0).toInt = now ∧ (∀ h : Nat, (h : Int) < nH → iwA nP f h) ∧ ∀ p : Nat, (p : Int) < nP → 0 ≤ (f (52 + 5 * p)).toInt ∧ (f (52 + 5 * p)).toInt ≤ 28800
def im_eq (a : Nat → Nat) (u : Nat → Int) (y : Nat → Nat → Int32) : Prop := (y (a 50) 1).toInt = u 0 ∧ (y (a 50) 5).toInt = u 1 ∧ (y (a 50) 19).toInt = u 2 ∧ (y (a 50) 9).toInt = u 3 ∧ (y (a 50) 24).toInt = u 4 ∧ (y (a 50) 30).toInt = u 5 ∧ (y (a 50) 34).toInt = u 6 ∧ (y (a 50) 36).toInt = u 7 ∧ (y (a 50) 31).toInt = u 8 ∧ (y (a 50) 40).toInt = u 10
def im_rg (u : Nat → Int) : Prop := (0 ≤ u 0 ∧ u 0 ≤ 4) ∧ (0 ≤ u 1 ∧ u 1 ≤ 8) ∧ (0 ≤ u 2 ∧ u 2 ≤ 30) ∧ (0 ≤ u 3 ∧ u 3 ≤ 31) ∧ (0 ≤ u 4 ∧ u 4 ≤ 20) ∧ (0 ≤ u 5 ∧ u 5 ≤ 40) ∧ (0 ≤ u 6 ∧ u 6 ≤ 100) ∧ (0 ≤ u 7 ∧ u 7 ≤ 8) ∧ (0 ≤ u 9 ∧ u 9 ≤ 4800) ∧ (-1 ≤ u 10 ∧ (u 10 = -1 ∨ u 10 < u 4))
def im_ar (a : Nat → Nat) (u : Nat → Int) (y : Nat → Nat → Int32) : Prop := vb (u 2) 1 400 (y (a 63)) ∧ vb (u 2) 0 6 (y (a 69)) ∧ vb (u 1) 10 200 (y (a 53)) ∧ vb (u 4) 0 60 (y (a 72)) ∧ vb (u 5) 0 29 (y (a 77))
def IM (a : Nat → Nat) (u : Nat → Int) (τ : Nat → Nat) (y : Nat → Nat → Int32) : Prop := fx a τ ∧ im_eq a u y ∧ im_rg u ∧ im_ar a u y
def agg (τ : Nat → Nat) (g g' : Nat → Nat → Option Nat) : Prop := ∀ q, τ q ≠ 60 → g' q = g q
theorem agg.rf {τ : Nat → Nat} {g : Nat → Nat → Option Nat} : agg τ g g := fun _ _ => rfl
theorem agg.tr {τ : Nat → Nat} {g g1 g2 : Nat → Nat → Option Nat} (h : agg τ g g1) (h2 : agg τ g1 g2) : agg τ g g2 := fun q hq => (h2 q hq).trans (h q hq)
theorem agg.up {τ : Nat → Nat} {g g1 : Nat → Nat → Option Nat} {q i : Nat} {x : Option Nat} (h : agg τ g g1) (ht : τ q = 60) : agg τ g (upg g1 q i x) := fun z hz => by
  rw [upg_o (fun e => hz (by rw [e]; exact ht))]; exact h z hz
section IMS
variable {a : Nat → Nat} {u : Nat → Int} {τ : Nat → Nat} {y y' : Nat → Nat → Int32}
theorem IM.ag (h : IM a u τ y) {S : List Nat} (hg : ag τ S y y') (hS : 60 ∉ S ∧ 73 ∉ S ∧ 79 ∉ S ∧ 63 ∉ S ∧ 82 ∉ S ∧ 87 ∉ S) : IM a u τ y' := by
  obtain ⟨hx, he, hr, ha⟩ := h
  refine ⟨hx, ?_, hr, ?_⟩
  · unfold im_eq; rw [hg.at (hx 50 (by decide)) hS.1]; exact he
  · unfold im_ar; rw [hg.at (hx 63 (by decide)) hS.2.1, hg.at (hx 69 (by decide)) hS.2.2.1, hg.at (hx 53 (by decide)) hS.2.2.2.1, hg.at (hx 72 (by decide)) hS.2.2.2.2.1, hg.at (hx 77 (by decide)) hS.2.2.2.2.2]; exact ha
theorem im_arO {x : Int32} {f : Nat} (hx : fx a τ) (ha : im_ar a u y) : im_ar a u (up2 y (a 50) f x) := by
  unfold im_ar
  rw [up2_o (fx_ne hx (i := 63) (j := 50) (by decide) (by decide) (by decide)), up2_o (fx_ne hx (i := 69) (j := 50) (by decide) (by decide) (by decide)), up2_o (fx_ne hx (i := 53) (j := 50) (by decide) (by decide) (by decide)), up2_o (fx_ne hx (i := 72) (j := 50) (by decide) (by decide) (by decide)), up2_o (fx_ne hx (i := 77) (j := 50) (by decide) (by decide) (by decide))]; exact ha
/-- a field that the invariant doesn't speak of -/
theorem IM.put (h : IM a u τ y) {f : Nat} {x : Int32} (hf : f ∉ [1, 5, 19, 9, 24, 30, 34, 36, 31, 40]) : IM a u τ (up2 y (a 50) f x) := by
  obtain ⟨hx, ⟨e0, e1, e2, e3, e4, e5, e6, e7, e8, e9⟩, hr, ha⟩ := h
  simp only [List.mem_cons, List.not_mem_nil, or_false, not_or] at hf
  refine ⟨hx, ⟨by rw [up2_e (by omega)]; exact e0, by rw [up2_e (by omega)]; exact e1, by rw [up2_e (by omega)]; exact e2, by rw [up2_e (by omega)]; exact e3, by rw [up2_e (by omega)]; exact e4, by rw [up2_e (by omega)]; exact e5, by rw [up2_e (by omega)]; exact e6, by rw [up2_e (by omega)]; exact e7, by rw [up2_e (by omega)]; exact e8, by rw [up2_e (by omega)]; exact e9⟩, hr, im_arO hx ha⟩
theorem im_0 (h : IM a u τ y) : (y (a 50) 1).toInt = u 0 := h.2.1.1
theorem im_1 (h : IM a u τ y) : (y (a 50) 5).toInt = u 1 := h.2.1.2.1
theorem im_2 (h : IM a u τ y) : (y (a 50) 19).toInt = u 2 := h.2.1.2.2.1
theorem im_3 (h : IM a u τ y) : (y (a 50) 9).toInt = u 3 := h.2.1.2.2.2.1
theorem im_4 (h : IM a u τ y) : (y (a 50) 24).toInt = u 4 := h.2.1.2.2.2.2.1
theorem im_5 (h : IM a u τ y) : (y (a 50) 30).toInt = u 5 := h.2.1.2.2.2.2.2.1
theorem im_6 (h : IM a u τ y) : (y (a 50) 34).toInt = u 6 := h.2.1.2.2.2.2.2.2.1
theorem im_7 (h : IM a u τ y) : (y (a 50) 36).toInt = u 7 := h.2.1.2.2.2.2.2.2.2.1
theorem im_8 (h : IM a u τ y) : (y (a 50) 31).toInt = u 8 := h.2.1.2.2.2.2.2.2.2.2.1
theorem im_10 (h : IM a u τ y) : (y (a 50) 40).toInt = u 10 := h.2.1.2.2.2.2.2.2.2.2.2
theorem im_r (h : IM a u τ y) : (0 ≤ u 0 ∧ u 0 ≤ 4) ∧ (0 ≤ u 1 ∧ u 1 ≤ 8) ∧ (0 ≤ u 2 ∧ u 2 ≤ 30) ∧ (0 ≤ u 3 ∧ u 3 ≤ 31) ∧ (0 ≤ u 4 ∧ u 4 ≤ 20) ∧ (0 ≤ u 5 ∧ u 5 ≤ 40) ∧ (0 ≤ u 6 ∧ u 6 ≤ 100) ∧ (0 ≤ u 7 ∧ u 7 ≤ 8) ∧ (0 ≤ u 9 ∧ u 9 ≤ 4800) ∧ (-1 ≤ u 10 ∧ (u 10 = -1 ∨ u 10 < u 4)) := h.2.2.1
theorem im_a63 (h : IM a u τ y) : vb (u 2) 1 400 (y (a 63)) := h.2.2.2.1
theorem im_a69 (h : IM a u τ y) : vb (u 2) 0 6 (y (a 69)) := h.2.2.2.2.1
theorem im_a53 (h : IM a u τ y) : vb (u 1) 10 200 (y (a 53)) := h.2.2.2.2.2.1
theorem im_a72 (h : IM a u τ y) : vb (u 4) 0 60 (y (a 72)) := h.2.2.2.2.2.2.1
theorem im_a77 (h : IM a u τ y) : vb (u 5) 0 29 (y (a 77)) := h.2.2.2.2.2.2.2
theorem IM.set0 (h : IM a u τ y) {x : Int32} {v : Int} (hx : x.toInt = v) (h0 : 0 ≤ v) (h1 : v ≤ 4) : IM a (upc u 0 v) τ (up2 y (a 50) 1 x) := by
  obtain ⟨hx0, ⟨e0, e1, e2, e3, e4, e5, e6, e7, e8, e9⟩, hr, ⟨rw1, rw2, rw3, rw4, rw5⟩⟩ := h
  refine ⟨hx0, ⟨by rw [up2_i, upc_i]; exact hx, by rw [up2_e (by decide), upc_o (by decide)]; exact e1, by rw [up2_e (by decide), upc_o (by decide)]; exact e2, by rw [up2_e (by decide), upc_o (by decide)]; exact e3, by rw [up2_e (by decide), upc_o (by decide)]; exact e4, by rw [up2_e (by decide), upc_o (by decide)]; exact e5, by rw [up2_e (by decide), upc_o (by decide)]; exact e6, by rw [up2_e (by decide), upc_o (by decide)]; exact e7, by rw [up2_e (by decide), upc_o (by decide)]; exact e8, by rw [up2_e (by decide), upc_o (by decide)]; exact e9⟩, ?_, ⟨by rw [upc_o (by decide), up2_o (fx_ne hx0 (i := 63) (j := 50) (by decide) (by decide) (by decide))]; exact rw1, by rw [upc_o (by decide), up2_o (fx_ne hx0 (i := 69) (j := 50) (by decide) (by decide) (by decide))]; exact rw2, by rw [upc_o (by decide), up2_o (fx_ne hx0 (i := 53) (j := 50) (by decide) (by decide) (by decide))]; exact rw3, by rw [upc_o (by decide), up2_o (fx_ne hx0 (i := 72) (j := 50) (by decide) (by decide) (by decide))]; exact rw4, by rw [upc_o (by decide), up2_o (fx_ne hx0 (i := 77) (j := 50) (by decide) (by decide) (by decide))]; exact rw5⟩⟩
  have hr2 := hr
  unfold im_rg at hr2 ⊢
  have w : ∀ n, n ≠ 0 → upc u 0 v n = u n := fun n hn => if_neg hn
  have ww : upc u 0 v 0 = v := if_pos rfl
  rw [ww, w 1 (by decide), w 2 (by decide), w 3 (by decide), w 4 (by decide), w 5 (by decide), w 6 (by decide), w 7 (by decide), w 9 (by decide), w 10 (by decide)]
  omega
theorem IM.set1 (h : IM a u τ y) {x : Int32} {v : Int} (hx : x.toInt = v) (h0 : 0 ≤ v) (h1 : v ≤ 8) (w3 : vb v 10 200 (y (a 53))) : IM a (upc u 1 v) τ (up2 y (a 50) 5 x) := by
  obtain ⟨hx0, ⟨e0, e1, e2, e3, e4, e5, e6, e7, e8, e9⟩, hr, ⟨rw1, rw2, rw3, rw4, rw5⟩⟩ := h
  refine ⟨hx0, ⟨by rw [up2_e (by decide), upc_o (by decide)]; exact e0, by rw [up2_i, upc_i]; exact hx, by rw [up2_e (by decide), upc_o (by decide)]; exact e2, by rw [up2_e (by decide), upc_o (by decide)]; exact e3, by rw [up2_e (by decide), upc_o (by decide)]; exact e4, by rw [up2_e (by decide), upc_o (by decide)]; exact e5, by rw [up2_e (by decide), upc_o (by decide)]; exact e6, by rw [up2_e (by decide), upc_o (by decide)]; exact e7, by rw [up2_e (by decide), upc_o (by decide)]; exact e8, by rw [up2_e (by decide), upc_o (by decide)]; exact e9⟩, ?_, ⟨by rw [upc_o (by decide), up2_o (fx_ne hx0 (i := 63) (j := 50) (by decide) (by decide) (by decide))]; exact rw1, by rw [upc_o (by decide), up2_o (fx_ne hx0 (i := 69) (j := 50) (by decide) (by decide) (by decide))]; exact rw2, by rw [upc_i, up2_o (fx_ne hx0 (i := 53) (j := 50) (by decide) (by decide) (by decide))]; exact w3, by rw [upc_o (by decide), up2_o (fx_ne hx0 (i := 72) (j := 50) (by decide) (by decide) (by decide))]; exact rw4, by rw [upc_o (by decide), up2_o (fx_ne hx0 (i := 77) (j := 50) (by decide) (by decide) (by decide))]; exact rw5⟩⟩
  have hr2 := hr
  unfold im_rg at hr2 ⊢
  have w : ∀ n, n ≠ 1 → upc u 1 v n = u n := fun n hn => if_neg hn
  have ww : upc u 1 v 1 = v := if_pos rfl
  rw [w 0 (by decide), ww, w 2 (by decide), w 3 (by decide), w 4 (by decide), w 5 (by decide), w 6 (by decide), w 7 (by decide), w 9 (by decide), w 10 (by decide)]
  omega
theorem IM.set2 (h : IM a u τ y) {x : Int32} {v : Int} (hx : x.toInt = v) (h0 : 0 ≤ v) (h1 : v ≤ 30) (w1 : vb v 1 400 (y (a 63))) (w2 : vb v 0 6 (y (a 69))) : IM a (upc u 2 v) τ (up2 y (a 50) 19 x) := by
  obtain ⟨hx0, ⟨e0, e1, e2, e3, e4, e5, e6, e7, e8, e9⟩, hr, ⟨rw1, rw2, rw3, rw4, rw5⟩⟩ := h
  refine ⟨hx0, ⟨by rw [up2_e (by decide), upc_o (by decide)]; exact e0, by rw [up2_e (by decide), upc_o (by decide)]; exact e1, by rw [up2_i, upc_i]; exact hx, by rw [up2_e (by decide), upc_o (by decide)]; exact e3, by rw [up2_e (by decide), upc_o (by decide)]; exact e4, by rw [up2_e (by decide), upc_o (by decide)]; exact e5, by rw [up2_e (by decide), upc_o (by decide)]; exact e6, by rw [up2_e (by decide), upc_o (by decide)]; exact e7, by rw [up2_e (by decide), upc_o (by decide)]; exact e8, by rw [up2_e (by decide), upc_o (by decide)]; exact e9⟩, ?_, ⟨by rw [upc_i, up2_o (fx_ne hx0 (i := 63) (j := 50) (by decide) (by decide) (by decide))]; exact w1, by rw [upc_i, up2_o (fx_ne hx0 (i := 69) (j := 50) (by decide) (by decide) (by decide))]; exact w2, by rw [upc_o (by decide), up2_o (fx_ne hx0 (i := 53) (j := 50) (by decide) (by decide) (by decide))]; exact rw3, by rw [upc_o (by decide), up2_o (fx_ne hx0 (i := 72) (j := 50) (by decide) (by decide) (by decide))]; exact rw4, by rw [upc_o (by decide), up2_o (fx_ne hx0 (i := 77) (j := 50) (by decide) (by decide) (by decide))]; exact rw5⟩⟩
  have hr2 := hr
  unfold im_rg at hr2 ⊢
  have w : ∀ n, n ≠ 2 → upc u 2 v n = u n := fun n hn => if_neg hn
  have ww : upc u 2 v 2 = v := if_pos rfl
  rw [w 0 (by decide), w 1 (by decide), ww, w 3 (by decide), w 4 (by decide), w 5 (by decide), w 6 (by decide), w 7 (by decide), w 9 (by decide), w 10 (by decide)]
  omega
theorem IM.set3 (h : IM a u τ y) {x : Int32} {v : Int} (hx : x.toInt = v) (h0 : 0 ≤ v) (h1 : v ≤ 31) : IM a (upc u 3 v) τ (up2 y (a 50) 9 x) := by
  obtain ⟨hx0, ⟨e0, e1, e2, e3, e4, e5, e6, e7, e8, e9⟩, hr, ⟨rw1, rw2, rw3, rw4, rw5⟩⟩ := h
  refine ⟨hx0, ⟨by rw [up2_e (by decide), upc_o (by decide)]; exact e0, by rw [up2_e (by decide), upc_o (by decide)]; exact e1, by rw [up2_e (by decide), upc_o (by decide)]; exact e2, by rw [up2_i, upc_i]; exact hx, by rw [up2_e (by decide), upc_o (by decide)]; exact e4, by rw [up2_e (by decide), upc_o (by decide)]; exact e5, by rw [up2_e (by decide), upc_o (by decide)]; exact e6, by rw [up2_e (by decide), upc_o (by decide)]; exact e7, by rw [up2_e (by decide), upc_o (by decide)]; exact e8, by rw [up2_e (by decide), upc_o (by decide)]; exact e9⟩, ?_, ⟨by rw [upc_o (by decide), up2_o (fx_ne hx0 (i := 63) (j := 50) (by decide) (by decide) (by decide))]; exact rw1, by rw [upc_o (by decide), up2_o (fx_ne hx0 (i := 69) (j := 50) (by decide) (by decide) (by decide))]; exact rw2, by rw [upc_o (by decide), up2_o (fx_ne hx0 (i := 53) (j := 50) (by decide) (by decide) (by decide))]; exact rw3, by rw [upc_o (by decide), up2_o (fx_ne hx0 (i := 72) (j := 50) (by decide) (by decide) (by decide))]; exact rw4, by rw [upc_o (by decide), up2_o (fx_ne hx0 (i := 77) (j := 50) (by decide) (by decide) (by decide))]; exact rw5⟩⟩
  have hr2 := hr
  unfold im_rg at hr2 ⊢
  have w : ∀ n, n ≠ 3 → upc u 3 v n = u n := fun n hn => if_neg hn
  have ww : upc u 3 v 3 = v := if_pos rfl
  rw [w 0 (by decide), w 1 (by decide), w 2 (by decide), ww, w 4 (by decide), w 5 (by decide), w 6 (by decide), w 7 (by decide), w 9 (by decide), w 10 (by decide)]
  omega
theorem IM.set4 (h : IM a u τ y) {x : Int32} {v : Int} (hx : x.toInt = v) (h0 : 0 ≤ v) (h1 : v ≤ 20) (h2 : u 4 ≤ v) (w4 : vb v 0 60 (y (a 72))) : IM a (upc u 4 v) τ (up2 y (a 50) 24 x) := by
  obtain ⟨hx0, ⟨e0, e1, e2, e3, e4, e5, e6, e7, e8, e9⟩, hr, ⟨rw1, rw2, rw3, rw4, rw5⟩⟩ := h
  refine ⟨hx0, ⟨by rw [up2_e (by decide), upc_o (by decide)]; exact e0, by rw [up2_e (by decide), upc_o (by decide)]; exact e1, by rw [up2_e (by decide), upc_o (by decide)]; exact e2, by rw [up2_e (by decide), upc_o (by decide)]; exact e3, by rw [up2_i, upc_i]; exact hx, by rw [up2_e (by decide), upc_o (by decide)]; exact e5, by rw [up2_e (by decide), upc_o (by decide)]; exact e6, by rw [up2_e (by decide), upc_o (by decide)]; exact e7, by rw [up2_e (by decide), upc_o (by decide)]; exact e8, by rw [up2_e (by decide), upc_o (by decide)]; exact e9⟩, ?_, ⟨by rw [upc_o (by decide), up2_o (fx_ne hx0 (i := 63) (j := 50) (by decide) (by decide) (by decide))]; exact rw1, by rw [upc_o (by decide), up2_o (fx_ne hx0 (i := 69) (j := 50) (by decide) (by decide) (by decide))]; exact rw2, by rw [upc_o (by decide), up2_o (fx_ne hx0 (i := 53) (j := 50) (by decide) (by decide) (by decide))]; exact rw3, by rw [upc_i, up2_o (fx_ne hx0 (i := 72) (j := 50) (by decide) (by decide) (by decide))]; exact w4, by rw [upc_o (by decide), up2_o (fx_ne hx0 (i := 77) (j := 50) (by decide) (by decide) (by decide))]; exact rw5⟩⟩
  have hr2 := hr
  unfold im_rg at hr2 ⊢
  have w : ∀ n, n ≠ 4 → upc u 4 v n = u n := fun n hn => if_neg hn
  have ww : upc u 4 v 4 = v := if_pos rfl
  rw [w 0 (by decide), w 1 (by decide), w 2 (by decide), w 3 (by decide), ww, w 5 (by decide), w 6 (by decide), w 7 (by decide), w 9 (by decide), w 10 (by decide)]
  omega
theorem IM.set5 (h : IM a u τ y) {x : Int32} {v : Int} (hx : x.toInt = v) (h0 : 0 ≤ v) (h1 : v ≤ 40) (w5 : vb v 0 29 (y (a 77))) : IM a (upc u 5 v) τ (up2 y (a 50) 30 x) := by
  obtain ⟨hx0, ⟨e0, e1, e2, e3, e4, e5, e6, e7, e8, e9⟩, hr, ⟨rw1, rw2, rw3, rw4, rw5⟩⟩ := h
  refine ⟨hx0, ⟨by rw [up2_e (by decide), upc_o (by decide)]; exact e0, by rw [up2_e (by decide), upc_o (by decide)]; exact e1, by rw [up2_e (by decide), upc_o (by decide)]; exact e2, by rw [up2_e (by decide), upc_o (by decide)]; exact e3, by rw [up2_e (by decide), upc_o (by decide)]; exact e4, by rw [up2_i, upc_i]; exact hx, by rw [up2_e (by decide), upc_o (by decide)]; exact e6, by rw [up2_e (by decide), upc_o (by decide)]; exact e7, by rw [up2_e (by decide), upc_o (by decide)]; exact e8, by rw [up2_e (by decide), upc_o (by decide)]; exact e9⟩, ?_, ⟨by rw [upc_o (by decide), up2_o (fx_ne hx0 (i := 63) (j := 50) (by decide) (by decide) (by decide))]; exact rw1, by rw [upc_o (by decide), up2_o (fx_ne hx0 (i := 69) (j := 50) (by decide) (by decide) (by decide))]; exact rw2, by rw [upc_o (by decide), up2_o (fx_ne hx0 (i := 53) (j := 50) (by decide) (by decide) (by decide))]; exact rw3, by rw [upc_o (by decide), up2_o (fx_ne hx0 (i := 72) (j := 50) (by decide) (by decide) (by decide))]; exact rw4, by rw [upc_i, up2_o (fx_ne hx0 (i := 77) (j := 50) (by decide) (by decide) (by decide))]; exact w5⟩⟩
  have hr2 := hr
  unfold im_rg at hr2 ⊢
  have w : ∀ n, n ≠ 5 → upc u 5 v n = u n := fun n hn => if_neg hn
  have ww : upc u 5 v 5 = v := if_pos rfl
  rw [w 0 (by decide), w 1 (by decide), w 2 (by decide), w 3 (by decide), w 4 (by decide), ww, w 6 (by decide), w 7 (by decide), w 9 (by decide), w 10 (by decide)]
  omega
theorem IM.set6 (h : IM a u τ y) {x : Int32} {v : Int} (hx : x.toInt = v) (h0 : 0 ≤ v) (h1 : v ≤ 100) : IM a (upc u 6 v) τ (up2 y (a 50) 34 x) := by
  obtain ⟨hx0, ⟨e0, e1, e2, e3, e4, e5, e6, e7, e8, e9⟩, hr, ⟨rw1, rw2, rw3, rw4, rw5⟩⟩ := h
  refine ⟨hx0, ⟨by rw [up2_e (by decide), upc_o (by decide)]; exact e0, by rw [up2_e (by decide), upc_o (by decide)]; exact e1, by rw [up2_e (by decide), upc_o (by decide)]; exact e2, by rw [up2_e (by decide), upc_o (by decide)]; exact e3, by rw [up2_e (by decide), upc_o (by decide)]; exact e4, by rw [up2_e (by decide), upc_o (by decide)]; exact e5, by rw [up2_i, upc_i]; exact hx, by rw [up2_e (by decide), upc_o (by decide)]; exact e7, by rw [up2_e (by decide), upc_o (by decide)]; exact e8, by rw [up2_e (by decide), upc_o (by decide)]; exact e9⟩, ?_, ⟨by rw [upc_o (by decide), up2_o (fx_ne hx0 (i := 63) (j := 50) (by decide) (by decide) (by decide))]; exact rw1, by rw [upc_o (by decide), up2_o (fx_ne hx0 (i := 69) (j := 50) (by decide) (by decide) (by decide))]; exact rw2, by rw [upc_o (by decide), up2_o (fx_ne hx0 (i := 53) (j := 50) (by decide) (by decide) (by decide))]; exact rw3, by rw [upc_o (by decide), up2_o (fx_ne hx0 (i := 72) (j := 50) (by decide) (by decide) (by decide))]; exact rw4, by rw [upc_o (by decide), up2_o (fx_ne hx0 (i := 77) (j := 50) (by decide) (by decide) (by decide))]; exact rw5⟩⟩
  have hr2 := hr
  unfold im_rg at hr2 ⊢
  have w : ∀ n, n ≠ 6 → upc u 6 v n = u n := fun n hn => if_neg hn
  have ww : upc u 6 v 6 = v := if_pos rfl
  rw [w 0 (by decide), w 1 (by decide), w 2 (by decide), w 3 (by decide), w 4 (by decide), w 5 (by decide), ww, w 7 (by decide), w 9 (by decide), w 10 (by decide)]
  omega
theorem IM.set7 (h : IM a u τ y) {x : Int32} {v : Int} (hx : x.toInt = v) (h0 : 0 ≤ v) (h1 : v ≤ 8) : IM a (upc u 7 v) τ (up2 y (a 50) 36 x) := by
  obtain ⟨hx0, ⟨e0, e1, e2, e3, e4, e5, e6, e7, e8, e9⟩, hr, ⟨rw1, rw2, rw3, rw4, rw5⟩⟩ := h
  refine ⟨hx0, ⟨by rw [up2_e (by decide), upc_o (by decide)]; exact e0, by rw [up2_e (by decide), upc_o (by decide)]; exact e1, by rw [up2_e (by decide), upc_o (by decide)]; exact e2, by rw [up2_e (by decide), upc_o (by decide)]; exact e3, by rw [up2_e (by decide), upc_o (by decide)]; exact e4, by rw [up2_e (by decide), upc_o (by decide)]; exact e5, by rw [up2_e (by decide), upc_o (by decide)]; exact e6, by rw [up2_i, upc_i]; exact hx, by rw [up2_e (by decide), upc_o (by decide)]; exact e8, by rw [up2_e (by decide), upc_o (by decide)]; exact e9⟩, ?_, ⟨by rw [upc_o (by decide), up2_o (fx_ne hx0 (i := 63) (j := 50) (by decide) (by decide) (by decide))]; exact rw1, by rw [upc_o (by decide), up2_o (fx_ne hx0 (i := 69) (j := 50) (by decide) (by decide) (by decide))]; exact rw2, by rw [upc_o (by decide), up2_o (fx_ne hx0 (i := 53) (j := 50) (by decide) (by decide) (by decide))]; exact rw3, by rw [upc_o (by decide), up2_o (fx_ne hx0 (i := 72) (j := 50) (by decide) (by decide) (by decide))]; exact rw4, by rw [upc_o (by decide), up2_o (fx_ne hx0 (i := 77) (j := 50) (by decide) (by decide) (by decide))]; exact rw5⟩⟩
  have hr2 := hr
  unfold im_rg at hr2 ⊢
  have w : ∀ n, n ≠ 7 → upc u 7 v n = u n := fun n hn => if_neg hn
  have ww : upc u 7 v 7 = v := if_pos rfl
  rw [w 0 (by decide), w 1 (by decide), w 2 (by decide), w 3 (by decide), w 4 (by decide), w 5 (by decide), w 6 (by decide), ww, w 9 (by decide), w 10 (by decide)]
  omega
theorem IM.set8 (h : IM a u τ y) {x : Int32} {v : Int} (hx : x.toInt = v)  : IM a (upc u 8 v) τ (up2 y (a 50) 31 x) := by
  obtain ⟨hx0, ⟨e0, e1, e2, e3, e4, e5, e6, e7, e8, e9⟩, hr, ⟨rw1, rw2, rw3, rw4, rw5⟩⟩ := h
  refine ⟨hx0, ⟨by rw [up2_e (by decide), upc_o (by decide)]; exact e0, by rw [up2_e (by decide), upc_o (by decide)]; exact e1, by rw [up2_e (by decide), upc_o (by decide)]; exact e2, by rw [up2_e (by decide), upc_o (by decide)]; exact e3, by rw [up2_e (by decide), upc_o (by decide)]; exact e4, by rw [up2_e (by decide), upc_o (by decide)]; exact e5, by rw [up2_e (by decide), upc_o (by decide)]; exact e6, by rw [up2_e (by decide), upc_o (by decide)]; exact e7, by rw [up2_i, upc_i]; exact hx, by rw [up2_e (by decide), upc_o (by decide)]; exact e9⟩, ?_, ⟨by rw [upc_o (by decide), up2_o (fx_ne hx0 (i := 63) (j := 50) (by decide) (by decide) (by decide))]; exact rw1, by rw [upc_o (by decide), up2_o (fx_ne hx0 (i := 69) (j := 50) (by decide) (by decide) (by decide))]; exact rw2, by rw [upc_o (by decide), up2_o (fx_ne hx0 (i := 53) (j := 50) (by decide) (by decide) (by decide))]; exact rw3, by rw [upc_o (by decide), up2_o (fx_ne hx0 (i := 72) (j := 50) (by decide) (by decide) (by decide))]; exact rw4, by rw [upc_o (by decide), up2_o (fx_ne hx0 (i := 77) (j := 50) (by decide) (by decide) (by decide))]; exact rw5⟩⟩
  have hr2 := hr
  unfold im_rg at hr2 ⊢
  have w : ∀ n, n ≠ 8 → upc u 8 v n = u n := fun n hn => if_neg hn
  have ww : upc u 8 v 8 = v := if_pos rfl
  rw [w 0 (by decide), w 1 (by decide), w 2 (by decide), w 3 (by decide), w 4 (by decide), w 5 (by decide), w 6 (by decide), w 7 (by decide), w 9 (by decide), w 10 (by decide)]
  omega
theorem IM.set10 (h : IM a u τ y) {x : Int32} {v : Int} (hx : x.toInt = v) (h0 : -1 ≤ v) (h1 : v = -1 ∨ v < u 4) : IM a (upc u 10 v) τ (up2 y (a 50) 40 x) := by
  obtain ⟨hx0, ⟨e0, e1, e2, e3, e4, e5, e6, e7, e8, e9⟩, hr, ⟨rw1, rw2, rw3, rw4, rw5⟩⟩ := h
  refine ⟨hx0, ⟨by rw [up2_e (by decide), upc_o (by decide)]; exact e0, by rw [up2_e (by decide), upc_o (by decide)]; exact e1, by rw [up2_e (by decide), upc_o (by decide)]; exact e2, by rw [up2_e (by decide), upc_o (by decide)]; exact e3, by rw [up2_e (by decide), upc_o (by decide)]; exact e4, by rw [up2_e (by decide), upc_o (by decide)]; exact e5, by rw [up2_e (by decide), upc_o (by decide)]; exact e6, by rw [up2_e (by decide), upc_o (by decide)]; exact e7, by rw [up2_e (by decide), upc_o (by decide)]; exact e8, by rw [up2_i, upc_i]; exact hx⟩, ?_, ⟨by rw [upc_o (by decide), up2_o (fx_ne hx0 (i := 63) (j := 50) (by decide) (by decide) (by decide))]; exact rw1, by rw [upc_o (by decide), up2_o (fx_ne hx0 (i := 69) (j := 50) (by decide) (by decide) (by decide))]; exact rw2, by rw [upc_o (by decide), up2_o (fx_ne hx0 (i := 53) (j := 50) (by decide) (by decide) (by decide))]; exact rw3, by rw [upc_o (by decide), up2_o (fx_ne hx0 (i := 72) (j := 50) (by decide) (by decide) (by decide))]; exact rw4, by rw [upc_o (by decide), up2_o (fx_ne hx0 (i := 77) (j := 50) (by decide) (by decide) (by decide))]; exact rw5⟩⟩
  have hr2 := hr
  unfold im_rg at hr2 ⊢
  have w : ∀ n, n ≠ 10 → upc u 10 v n = u n := fun n hn => if_neg hn
  have ww : upc u 10 v 10 = v := if_pos rfl
  rw [w 0 (by decide), w 1 (by decide), w 2 (by decide), w 3 (by decide), w 4 (by decide), w 5 (by decide), w 6 (by decide), w 7 (by decide), w 9 (by decide), ww]
  omega
theorem IM.now (h : IM a u τ y) {v : Int} (h0 : 0 ≤ v) (h1 : v ≤ 4800) : IM a (upc u 9 v) τ y := by
  obtain ⟨hx0, ⟨e0, e1, e2, e3, e4, e5, e6, e7, e8, e9⟩, hr, ⟨w1, w2, w3, w4, w5⟩⟩ := h
  refine ⟨hx0, ⟨by rw [upc_o (by decide)]; exact e0, by rw [upc_o (by decide)]; exact e1, by rw [upc_o (by decide)]; exact e2, by rw [upc_o (by decide)]; exact e3, by rw [upc_o (by decide)]; exact e4, by rw [upc_o (by decide)]; exact e5, by rw [upc_o (by decide)]; exact e6, by rw [upc_o (by decide)]; exact e7, by rw [upc_o (by decide)]; exact e8, by rw [upc_o (by decide)]; exact e9⟩, ?_, ⟨by rw [upc_o (by decide)]; exact w1, by rw [upc_o (by decide)]; exact w2, by rw [upc_o (by decide)]; exact w3, by rw [upc_o (by decide)]; exact w4, by rw [upc_o (by decide)]; exact w5⟩⟩
  have hr2 := hr
  unfold im_rg at hr2 ⊢
  have w : ∀ n, n ≠ 9 → upc u 9 v n = u n := fun n hn => if_neg hn
  have ww : upc u 9 v 9 = v := if_pos rfl
  rw [w 0 (by decide), w 1 (by decide), w 2 (by decide), w 3 (by decide), w 4 (by decide), w 5 (by decide), w 6 (by decide), w 7 (by decide), ww, w 10 (by decide)]
  omega
theorem IM.o63 (h : IM a u τ y) {i x : Int32} (hi : i.toInt = u 2) : IM a u τ (up2 y (a 63) i.toNatClampNeg x) := by
  obtain ⟨hx, he, hr, ⟨w1, w2, w3, w4, w5⟩⟩ := h
  have hr2 := hr
  unfold im_rg at hr2
  refine ⟨hx, ?_, hr, ?_⟩
  · unfold im_eq; rw [up2_o (fx_ne hx (i := 50) (j := 63) (by decide) (by decide) (by decide))]; exact he
  · unfold im_ar; rw [up2_o (fx_ne hx (i := 69) (j := 63) (by decide) (by decide) (by decide)), up2_o (fx_ne hx (i := 53) (j := 63) (by decide) (by decide) (by decide)), up2_o (fx_ne hx (i := 72) (j := 63) (by decide) (by decide) (by decide)), up2_o (fx_ne hx (i := 77) (j := 63) (by decide) (by decide) (by decide)), up2_q]
    exact ⟨vb_o w1 hi (by omega), w2, w3, w4, w5⟩
theorem IM.o69 (h : IM a u τ y) {i x : Int32} (hi : i.toInt = u 2) : IM a u τ (up2 y (a 69) i.toNatClampNeg x) := by
  obtain ⟨hx, he, hr, ⟨w1, w2, w3, w4, w5⟩⟩ := h
  have hr2 := hr
  unfold im_rg at hr2
  refine ⟨hx, ?_, hr, ?_⟩
  · unfold im_eq; rw [up2_o (fx_ne hx (i := 50) (j := 69) (by decide) (by decide) (by decide))]; exact he
  · unfold im_ar; rw [up2_o (fx_ne hx (i := 63) (j := 69) (by decide) (by decide) (by decide)), up2_o (fx_ne hx (i := 53) (j := 69) (by decide) (by decide) (by decide)), up2_o (fx_ne hx (i := 72) (j := 69) (by decide) (by decide) (by decide)), up2_o (fx_ne hx (i := 77) (j := 69) (by decide) (by decide) (by decide)), up2_q]
    exact ⟨w1, vb_o w2 hi (by omega), w3, w4, w5⟩
theorem IM.o53 (h : IM a u τ y) {i x : Int32} (hi : i.toInt = u 1) : IM a u τ (up2 y (a 53) i.toNatClampNeg x) := by
  obtain ⟨hx, he, hr, ⟨w1, w2, w3, w4, w5⟩⟩ := h
  have hr2 := hr
  unfold im_rg at hr2
  refine ⟨hx, ?_, hr, ?_⟩
  · unfold im_eq; rw [up2_o (fx_ne hx (i := 50) (j := 53) (by decide) (by decide) (by decide))]; exact he
  · unfold im_ar; rw [up2_o (fx_ne hx (i := 63) (j := 53) (by decide) (by decide) (by decide)), up2_o (fx_ne hx (i := 69) (j := 53) (by decide) (by decide) (by decide)), up2_o (fx_ne hx (i := 72) (j := 53) (by decide) (by decide) (by decide)), up2_o (fx_ne hx (i := 77) (j := 53) (by decide) (by decide) (by decide)), up2_q]
    exact ⟨w1, w2, vb_o w3 hi (by omega), w4, w5⟩
theorem IM.o72 (h : IM a u τ y) {i x : Int32} (hi : i.toInt = u 4) : IM a u τ (up2 y (a 72) i.toNatClampNeg x) := by
  obtain ⟨hx, he, hr, ⟨w1, w2, w3, w4, w5⟩⟩ := h
  have hr2 := hr
  unfold im_rg at hr2
  refine ⟨hx, ?_, hr, ?_⟩
  · unfold im_eq; rw [up2_o (fx_ne hx (i := 50) (j := 72) (by decide) (by decide) (by decide))]; exact he
  · unfold im_ar; rw [up2_o (fx_ne hx (i := 63) (j := 72) (by decide) (by decide) (by decide)), up2_o (fx_ne hx (i := 69) (j := 72) (by decide) (by decide) (by decide)), up2_o (fx_ne hx (i := 53) (j := 72) (by decide) (by decide) (by decide)), up2_o (fx_ne hx (i := 77) (j := 72) (by decide) (by decide) (by decide)), up2_q]
    exact ⟨w1, w2, w3, vb_o w4 hi (by omega), w5⟩
theorem IM.o77 (h : IM a u τ y) {i x : Int32} (hi : i.toInt = u 5) : IM a u τ (up2 y (a 77) i.toNatClampNeg x) := by
  obtain ⟨hx, he, hr, ⟨w1, w2, w3, w4, w5⟩⟩ := h
  have hr2 := hr
  unfold im_rg at hr2
  refine ⟨hx, ?_, hr, ?_⟩
  · unfold im_eq; rw [up2_o (fx_ne hx (i := 50) (j := 77) (by decide) (by decide) (by decide))]; exact he
  · unfold im_ar; rw [up2_o (fx_ne hx (i := 63) (j := 77) (by decide) (by decide) (by decide)), up2_o (fx_ne hx (i := 69) (j := 77) (by decide) (by decide) (by decide)), up2_o (fx_ne hx (i := 53) (j := 77) (by decide) (by decide) (by decide)), up2_o (fx_ne hx (i := 72) (j := 77) (by decide) (by decide) (by decide)), up2_q]
    exact ⟨w1, w2, w3, w4, vb_o w5 hi (by omega)⟩
end IMS
section IWS
variable {nH nP now : Int} {f : Nat → Int32} {i x : Int32}
theorem iw_oth (h : IW nH nP now f) {j : Nat} (h0 : j ≠ 0) (h1 : ∀ q : Nat, (q : Int) < nH → j ≠ 1 + 6 * q ∧ j ≠ 2 + 6 * q) (h2 : ∀ q : Nat, (q : Int) < nP → j ≠ 52 + 5 * q) : IW nH nP now (upd f j x) := by
  obtain ⟨w0, w1, w2⟩ := h
  have e : ∀ z, z ≠ j → upd f j x z = f z := fun z hz => if_neg hz
  refine ⟨by rw [e 0 (Ne.symm h0)]; exact w0, fun q hq => ?_, fun q hq => ?_⟩
  · unfold iwA; rw [e _ (Ne.symm (h1 q hq).1), e _ (Ne.symm (h1 q hq).2)]; exact w1 q hq
  · rw [e _ (Ne.symm (h2 q hq))]; exact w2 q hq
/-- a hand's other numbers -/
theorem iw_h (h : IW nH nP now f) {z w : Int} (hH : nH ≤ 8) (hi : i.toInt = 1 + 6 * z + w) (h0 : 0 ≤ z) (h8 : z < 8) (hw : 2 ≤ w ∧ w ≤ 5) : IW nH nP now (upd f i.toNatClampNeg x) := by
  rw [z_nat hi]
  exact iw_oth h (by omega) (fun q hq => by omega) (fun q hq => by omega)
theorem iw_p (h : IW nH nP now f) {z w : Int} (hH : nH ≤ 8) (hi : i.toInt = 49 + 5 * z + w) (h0 : 0 ≤ z) (hw : w = 0 ∨ w = 1 ∨ w = 2 ∨ w = 4) : IW nH nP now (upd f i.toNatClampNeg x) := by
  rw [z_nat hi]
  exact iw_oth h (by omega) (fun q hq => by omega) (fun q hq => by omega)
theorem iw_l (h : IW nH nP now f) {z v : Int} (hH : nH ≤ 8) (hi : i.toInt = 49 + 5 * z + 3) (h0 : 0 ≤ z) (hx : x.toInt = v) (hv : 0 ≤ v ∧ v ≤ 28800) : IW nH nP now (upd f i.toNatClampNeg x) := by
  rw [z_nat hi]
  obtain ⟨w0, w1, w2⟩ := h
  have e : ∀ z1, z1 ≠ (49 + 5 * z + 3).toNat → upd f (49 + 5 * z + 3).toNat x z1 = f z1 := fun z1 hz => if_neg hz
  refine ⟨by rw [e 0 (by omega)]; exact w0, fun q hq => ?_, fun q hq => ?_⟩
  · unfold iwA; rw [e _ (by omega), e _ (by omega)]; exact w1 q hq
  · by_cases eq : 52 + 5 * q = (49 + 5 * z + 3).toNat
    · rw [eq, show upd f (49 + 5 * z + 3).toNat x (49 + 5 * z + 3).toNat = x from if_pos rfl, hx]; exact hv
    · rw [e _ eq]; exact w2 q hq
theorem iw_now (h : IW nH nP now f) {now' : Int} (hi : i.toInt = 0) (hx : x.toInt = now') : IW nH nP now' (upd f i.toNatClampNeg x) := by
  rw [z_nat hi]
  obtain ⟨w0, w1, w2⟩ := h
  have e : ∀ z1, z1 ≠ 0 → upd f (0 : Int).toNat x z1 = f z1 := fun z1 hz => if_neg hz
  refine ⟨by rw [show upd f (0 : Int).toNat x 0 = x from if_pos rfl]; exact hx, fun q hq => ?_, fun q hq => ?_⟩
  · unfold iwA; rw [e _ (by omega), e _ (by omega)]; exact w1 q hq
  · rw [e _ (by omega)]; exact w2 q hq
/-- HAS and RATE of a hand together -/
theorem iw_2 (h : IW nH nP now f) {i2 x2 : Int32} {z v v2 : Int} (hH : nH ≤ 8) (hi : i.toInt = 1 + 6 * z + 0) (hi2 : i2.toInt = 1 + 6 * z + 1) (h0 : 0 ≤ z) (h8 : z < 8) (hx : x.toInt = v) (hx2 : x2.toInt = v2) (hv : v = -1 ∨ ((0 ≤ v ∧ v < nP) ∧ 5 ≤ v2 ∧ v2 ≤ 200)) : IW nH nP now (upd (upd f i.toNatClampNeg x) i2.toNatClampNeg x2) := by
  rw [z_nat hi, z_nat hi2]
  obtain ⟨w0, w1, w2⟩ := h
  have e : ∀ z1, z1 ≠ (1 + 6 * z + 0).toNat → z1 ≠ (1 + 6 * z + 1).toNat → upd (upd f (1 + 6 * z + 0).toNat x) (1 + 6 * z + 1).toNat x2 z1 = f z1 := fun z1 ha hb => by
    rw [show upd (upd f (1 + 6 * z + 0).toNat x) (1 + 6 * z + 1).toNat x2 z1 = upd f (1 + 6 * z + 0).toNat x z1 from if_neg hb]; exact if_neg ha
  have e1 : upd (upd f (1 + 6 * z + 0).toNat x) (1 + 6 * z + 1).toNat x2 (1 + 6 * z + 0).toNat = x := by
    rw [show upd (upd f (1 + 6 * z + 0).toNat x) (1 + 6 * z + 1).toNat x2 (1 + 6 * z + 0).toNat = upd f (1 + 6 * z + 0).toNat x (1 + 6 * z + 0).toNat from if_neg (by omega)]; exact if_pos rfl
  have e2 : upd (upd f (1 + 6 * z + 0).toNat x) (1 + 6 * z + 1).toNat x2 (1 + 6 * z + 1).toNat = x2 := if_pos rfl
  refine ⟨by rw [e 0 (by omega) (by omega)]; exact w0, fun q hq => ?_, fun q hq => ?_⟩
  · by_cases eq : (q : Int) = z
    · unfold iwA
      rw [show 1 + 6 * q = (1 + 6 * z + 0).toNat by omega, show 2 + 6 * q = (1 + 6 * z + 1).toNat by omega, e1, e2, hx, hx2]; exact hv
    · unfold iwA; rw [e _ (by omega) (by omega), e _ (by omega) (by omega)]; exact w1 q hq
  · rw [e _ (by omega) (by omega)]; exact w2 q hq
/-- one hand more -/
theorem iw_nh (h : IW nH nP now f) (hn : 0 ≤ nH) (h1 : (f (1 + 6 * nH).toNat).toInt = -1) : IW (nH + 1) nP now f := by
  obtain ⟨w0, w1, w2⟩ := h
  refine ⟨w0, fun q hq => ?_, w2⟩
  by_cases eq : (q : Int) = nH
  · left; rw [show 1 + 6 * q = (1 + 6 * nH).toNat by omega]; exact h1
  · exact w1 q (by omega)
/-- one piece more -/
theorem iw_np (h : IW nH nP now f) (hn : 0 ≤ nP) (h1 : 0 ≤ (f (52 + 5 * nP).toNat).toInt ∧ (f (52 + 5 * nP).toNat).toInt ≤ 28800) : IW nH (nP + 1) now f := by
  obtain ⟨w0, w1, w2⟩ := h
  refine ⟨w0, fun q hq => ?_, fun q hq => ?_⟩
  · rcases w1 q hq with z | z
    · exact Or.inl z
    · exact Or.inr ⟨⟨z.1.1, by omega⟩, z.2⟩
  · by_cases eq : (q : Int) = nP
    · rw [show 52 + 5 * q = (52 + 5 * nP).toNat by omega]; exact h1
    · exact w2 q (by omega)
/-- a number of a hand that isn't counted yet -/
theorem iw_n (h : IW nH nP now f) {z : Int} (hi : i.toInt = z) (hn : 0 ≤ nH) (h1 : 1 + 6 * nH ≤ z) (h2 : z ≤ 48) : IW nH nP now (upd f i.toNatClampNeg x) := by
  rw [z_nat hi]
  exact iw_oth h (by omega) (fun q hq => by omega) (fun q hq => by omega)
theorem iw_same (h : IW nH nP now f) {f' : Nat → Int32} (hf : ∀ j, j < 199 → f' j = f j) (hH : nH ≤ 8) (hP : nP ≤ 30) : IW nH nP now f' := by
  obtain ⟨w0, w1, w2⟩ := h
  refine ⟨by rw [hf 0 (by omega)]; exact w0, fun q hq => ?_, fun q hq => ?_⟩
  · unfold iwA; rw [hf _ (by omega), hf _ (by omega)]; exact w1 q hq
  · rw [hf _ (by omega)]; exact w2 q hq
theorem iw_has (h : IW nH nP now f) {z : Int} (hi : i.toInt = 1 + 6 * z + 0) (h0 : 0 ≤ z) (h1 : z < nH) : (f i.toNatClampNeg).toInt = -1 ∨ (0 ≤ (f i.toNatClampNeg).toInt ∧ (f i.toNatClampNeg).toInt < nP) := by
  rw [z_nat hi]
  have := h.2.1 z.toNat (by omega)
  rw [show (1 + 6 * z + 0).toNat = 1 + 6 * z.toNat by omega]
  rcases this with w | w
  · exact Or.inl w
  · exact Or.inr w.1
theorem iw_lft (h : IW nH nP now f) {z : Int} (hi : i.toInt = 49 + 5 * z + 3) (h0 : 0 ≤ z) (h1 : z < nP) : 0 ≤ (f i.toNatClampNeg).toInt ∧ (f i.toNatClampNeg).toInt ≤ 28800 := by
  rw [z_nat hi]
  rw [show (49 + 5 * z + 3).toNat = 52 + 5 * z.toNat by omega]
  exact h.2.2 z.toNat (by omega)
end IWS
theorem z_mulb {x y r : Int32} {a b : Int} (A B : Int) (he : r = x * y) (hx : x.toInt = a) (hy : y.toInt = b) (h0 : 0 ≤ a) (h1 : a ≤ A) (h2 : 0 ≤ b) (h3 : b ≤ B) (hB : A * B ≤ 2147483647) : 0 ≤ r.toInt ∧ r.toInt ≤ A * B := by
  have hA : 0 ≤ A := Int.le_trans h0 h1
  have e1 : 0 ≤ a * b := Int.mul_nonneg h0 h2
  have e2 : a * b ≤ A * B := Int.mul_le_mul h1 h3 h2 hA
  have e3 : r.toInt = a * b := z_mul he hx hy (by omega) (by omega)
  rw [e3]; exact ⟨e1, e2⟩
theorem z_divb {x y r : Int32} {a b : Int} (he : r = x / y) (hx : x.toInt = a) (hy : y.toInt = b) (h0 : 0 ≤ a) (h1 : 1 ≤ b) : 0 ≤ r.toInt ∧ r.toInt ≤ a := by
  have hr := (z_rg x).2
  rw [hx] at hr
  have e1 : 0 ≤ a.tdiv b := Int.tdiv_nonneg h0 (by omega)
  have e2 : a.tdiv b ≤ a := Int.tdiv_le_self b h0
  have e3 : r.toInt = a.tdiv b := by rw [he, Int32.toInt_div, hx, hy]; exact z_bm (by omega) (by omega)
  rw [e3]; exact ⟨e1, e2⟩
section TWP
variable {p : Program} {l : Launch} {e : Env} {R : Room} {s : State} {m : MethodId} {args : Array Value} {below : List Frame} {meth : Method} {c : Code} {H : Heap} {locs : List Loc} {cells slots : Nat} {Q : State → Prop}
variable {cc : ByteArray} {pc : Nat} {ls : Array Slot} {rest : List Value} {D : va_G} {A : Nat → Prop} {H0 : Heap}
variable {a : Nat → Nat} {k : Nat → ClassId} {τ ln : Nat → Nat} {y : Nat → Nat → Int32} {g : Nat → Nat → Option Nat} {q t : Nat}
theorem tw_putr (hexec : p.tables.exec = Jvm.exec) (hb : c.code = cc) {own ref C : String} {T : u_T} {N ci index : Nat} {Ts : List Cond} (hts : ∀ w ∈ Ts, w.before args s = true) (hin : ∀ w ∈ u_ws C T N, w ∈ Ts) (ty0 : Nat → FieldType) (hty : ∀ k, k < N → parseFieldDescriptor (T k).2.2.1 = some (ty0 k)) (hnm : ∀ a, a < N → ∀ b, b < N → a ≠ b → (T a).2.1 ≠ (T b).2.1) (hown : s.vm.findClass own = some m.cls) {tys : List (ClassId × FieldType)} (hK : va_K D vwCl tys s) (hT : tw D a k τ ln y g H) (hF : ∀ q, τ q ≠ 0 → A q) (hS0 : va_S A H0 H locs) (ht : τ q = t) (h0 : t ≠ 0) {fs : List Value} (he : cl_ a k (ln q) (y q) (g q) t = .inr (ci, fs)) (hc : vwCl[ci]? = some (C, T, N)) (kf : Nat) (hk : kf < N) (hlink : (Cond.fieldLink own index ref (T kf).2.1 (T kf).2.2.1).before args s = true) (hsame : ∀ x, s.fieldFound? (T kf).1 (T kf).2.1 (T kf).2.2.1 = some x → s.fieldFound? ref (T kf).2.1 (T kf).2.2.1 = some x) (hfin : (T kf).2.2.2 = false) {ty : FieldType} {x : Nat} (hd : parseFieldDescriptor (T kf).2.2.1 = some ty) (hn : narrow ty (.ref x) = .ref x) (hfit : fits ty (.ref x) = true) (hl : kf < fs.length)
    (hu : cl_ a k (ln q) (y q) (va_up (g q) kf (some x)) t = .inr (ci, fs.set kf (.ref x))) (hdg : decode cc pc = .ok (.putfield index, 3))
    (kk : ∀ (H1 : Heap) (locs1 : List Loc), tw D a k τ ln y (upg g q kf (some x)) H1 → va_S A H0 H1 locs1 → W p l e R s m args below meth c H1 locs1 cells slots Q (F0 m (pc + 3) ls rest)) : W p l e R s m args below meth c H locs cells slots Q (F0 m pc ls (.ref x :: .ref q :: rest)) := by
  obtain ⟨ws, hP, hD, hi, -⟩ := hT.world hF
  obtain ⟨i, hq⟩ := hi q (by rw [ht]; exact h0)
  have hq' : ws[i]? = some (q, .inr (ci, fs)) := by rw [hq]; unfold cel; rw [ht, he]
  exact va_put hexec hb hts hin ty0 hty hnm hown hK hP hD hS0 i hq' hc kf hk hlink hsame hfin hd hn hfit hl hdg (fun H1 locs1 hP1 _ hS1 => kk H1 locs1 (tw_set hi hq' hP1 ht (by rw [upg_q]; exact hu) (fun _ _ => rfl) (fun x hx => upg_o hx)) hS1)
end TWP
def ltr (ad : Nat → Nat) (o : Option Nat) : Prop := ∃ i, o = some (ad i) ∧ i < 13 ∧ (sL i : Int) ≤ 8
theorem fr_ok {x : Int32} {z : Int} (hx : x.toInt = z) (h0 : 0 ≤ z) (h1 : z < 4) : (0 ≤ (frm x.toNatClampNeg).toInt ∧ (frm x.toNatClampNeg).toInt ≤ 21) ∧ (1 ≤ (fsz x.toNatClampNeg).toInt ∧ (fsz x.toNatClampNeg).toInt ≤ 11) ∧ (frm x.toNatClampNeg).toInt + (fsz x.toNatClampNeg).toInt ≤ 22 := by
  rw [z_nat hx]
  rcases (show z = 0 ∨ z = 1 ∨ z = 2 ∨ z = 3 by omega) with h | h | h | h <;> subst h <;> decide
theorem rd_o {y y2 : Nat → Nat → Int32} {q : Nat} {i x : Int32} {n m : Int} (hy : y2 = up2 y q i.toNatClampNeg x) (hi : i.toInt = n) (h0 : 0 ≤ n) (hm : 0 ≤ m) (hne : m ≠ n) : (y2 q m.toNat).toInt = (y q m.toNat).toInt := by
  rw [hy, up2_e (by rw [z_nat hi]; omega)]
theorem rd_i {y y2 : Nat → Nat → Int32} {q : Nat} {i x : Int32} {n m z : Int} (hy : y2 = up2 y q i.toNatClampNeg x) (hi : i.toInt = n) (hm : m = n) (hx : x.toInt = z) : (y2 q m.toNat).toInt = z := by
  rw [hy, z_nat hi, hm, up2_i]; exact hx
theorem iw_rt {nH nP now : Int} {f : Nat → Int32} (h : IW nH nP now f) {z : Int} (h0 : 0 ≤ z) (h1 : z < nH) : (f (1 + 6 * z + 0).toNat).toInt = -1 ∨ ((0 ≤ (f (1 + 6 * z + 0).toNat).toInt ∧ (f (1 + 6 * z + 0).toNat).toInt < nP) ∧ 5 ≤ (f (1 + 6 * z + 1).toNat).toInt ∧ (f (1 + 6 * z + 1).toNat).toInt ≤ 200) := by
  have := h.2.1 z.toNat (by omega)
  rw [show (1 + 6 * z + 0).toNat = 1 + 6 * z.toNat by omega, show (1 + 6 * z + 1).toNat = 2 + 6 * z.toNat by omega]
  exact this
theorem iw_lf {nH nP now : Int} {f : Nat → Int32} (h : IW nH nP now f) {z : Int} (h0 : 0 ≤ z) (h1 : z < nP) : 0 ≤ (f (49 + 5 * z + 3).toNat).toInt ∧ (f (49 + 5 * z + 3).toNat).toInt ≤ 28800 := by
  rw [show (49 + 5 * z + 3).toNat = 52 + 5 * z.toNat by omega]
  exact h.2.2 z.toNat (by omega)
def cpd (n : Int) (f g : Nat → Int32) : Prop := ∀ j : Nat, (j : Int) < n → f j = g j
theorem cpd_0 {n : Int} {f g : Nat → Int32} (h : n ≤ 0) : cpd n f g := fun j hj => by omega
theorem cpd_step {n m z : Int} {y y2 : Nat → Nat → Int32} {q : Nat} {g : Nat → Int32} {i : Int32} (h : cpd n (y q) g) (hy : y2 = up2 y q i.toNatClampNeg (g i.toNatClampNeg)) (hi : i.toInt = z) (h0 : 0 ≤ z) (hn : z = n) (hm : m = n + 1) : cpd m (y2 q) g := fun j hj => by
  rw [hy, up2_q]
  by_cases e : j = i.toNatClampNeg
  · rw [e]; exact if_pos rfl
  · rw [show upd (y q) i.toNatClampNeg (g i.toNatClampNeg) j = y q j from if_neg e]
    exact h j (by rw [z_nat hi] at e; omega)
theorem iw_u {nH nP now nH' nP' now' : Int} {f : Nat → Int32} (h : IW nH nP now f) (e1 : nH' = nH) (e2 : nP' = nP) (e3 : now' = now) : IW nH' nP' now' f := by rw [e1, e2, e3]; exact h
theorem ec_h {i h w : Int32} {z v : Int} (hi : i.toInt = 1 + 6 * h.toInt + w.toInt) (h8 : h.toInt = z) (h7 : w.toInt = v) : i.toInt = 1 + 6 * z + v := by rw [hi, h8, h7]
theorem ec_p {i h w : Int32} {z v : Int} (hi : i.toInt = 49 + 5 * h.toInt + w.toInt) (h8 : h.toInt = z) (h7 : w.toInt = v) : i.toInt = 49 + 5 * z + v := by rw [hi, h8, h7]
theorem rd_hh {y y2 : Nat → Nat → Int32} {q : Nat} {i x : Int32} {z w v : Int} (hy : y2 = up2 y q i.toNatClampNeg x) (hi : i.toInt = 1 + 6 * z + w) (h0 : 0 ≤ z) (hw : 0 ≤ w ∧ 0 ≤ v ∧ w ≠ v) : (y2 q (1 + 6 * z + v).toNat).toInt = (y q (1 + 6 * z + v).toNat).toInt := rd_o hy hi (by omega) (by omega) (by omega)
theorem rd_pp {y y2 : Nat → Nat → Int32} {q : Nat} {i x : Int32} {z w v : Int} (hy : y2 = up2 y q i.toNatClampNeg x) (hi : i.toInt = 49 + 5 * z + w) (h0 : 0 ≤ z) (hw : 0 ≤ w ∧ 0 ≤ v ∧ w ≠ v) : (y2 q (49 + 5 * z + v).toNat).toInt = (y q (49 + 5 * z + v).toNat).toInt := rd_o hy hi (by omega) (by omega) (by omega)
