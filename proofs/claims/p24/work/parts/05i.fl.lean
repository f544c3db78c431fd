/-! THE FLOOR OF THE CLASS: who has what, and that it goes on -/
def fhA (nP : Int) (a : Nat → Nat) (y : Nat → Nat → Int32) (h : Nat) : Prop := (y (a 20) h).toInt = -1 ∨ ((0 ≤ (y (a 20) h).toInt ∧ (y (a 20) h).toInt < nP) ∧ (y (a 24) (y (a 20) h).toNatClampNeg).toInt = (h : Int) ∧ (y (a 25) (y (a 20) h).toNatClampNeg).toInt ≠ -1 ∧ (1 ≤ (y (a 27) (y (a 20) h).toNatClampNeg).toInt ∧ (y (a 27) (y (a 20) h).toNatClampNeg).toInt ≤ 28800) ∧ 5 ≤ (y (a 21) h).toInt ∧ (y (a 21) h).toInt ≤ 200)
def fpA (a : Nat → Nat) (y : Nat → Nat → Int32) (p : Nat) : Prop := (y (a 25) p).toInt = -1 → 1 ≤ (y (a 27) p).toInt ∧ (y (a 27) p).toInt ≤ 28800
def FL (a : Nat → Nat) (nH nP : Int) (y : Nat → Nat → Int32) : Prop := (∀ h : Nat, (h : Int) < nH → fhA nP a y h) ∧ ∀ p : Nat, (p : Int) < nP → fpA a y p
def spA (nH : Int) (a : Nat → Nat) (g : Nat → Nat → Option Nat) (y : Nat → Nat → Int32) : Prop := ∀ h : Nat, (h : Int) < nH → ∀ q, g (a 10) h = some q → 10 ≤ (y q 0).toInt ∧ (y q 0).toInt ≤ 200
def FLo (a : Nat → Nat) (u : Nat → Int) (g : Nat → Nat → Option Nat) (y : Nat → Nat → Int32) : Prop := (y (a 3) 2).toInt = u 9 ∧ (0 ≤ u 9 ∧ u 9 ≤ 4800) ∧ FL a (u 1) (u 2) y ∧ spA (u 1) a g y
theorem n_c {x : Int32} {z : Int} (hx : x.toInt = z) (h0 : 0 ≤ z) : (x.toNatClampNeg : Int) = z := by rw [z_nat hx]; omega
theorem n_e {x y : Int32} {z w : Int} (hx : x.toInt = z) (hy : y.toInt = w) (h0 : 0 ≤ z) (h1 : 0 ≤ w) (h : x.toNatClampNeg = y.toNatClampNeg) : z = w := by rw [z_nat hx, z_nat hy] at h; omega
section FLS
variable {a : Nat → Nat} {nH nP : Int} {y y' : Nat → Nat → Int32} {τ : Nat → Nat}
theorem FL.eqs (h : FL a nH nP y) (e0 : y' (a 20) = y (a 20)) (e1 : y' (a 21) = y (a 21)) (e4 : y' (a 24) = y (a 24)) (e5 : y' (a 25) = y (a 25)) (e7 : y' (a 27) = y (a 27)) : FL a nH nP y' := by
  unfold FL fhA fpA at h ⊢; rw [e0, e1, e4, e5, e7]; exact h
theorem FL.ag (h : FL a nH nP y) (hx : fx a τ) {S : List Nat} (hg : ag τ S y y') (hS : 30 ∉ S ∧ 31 ∉ S ∧ 34 ∉ S ∧ 35 ∉ S ∧ 37 ∉ S) : FL a nH nP y' :=
  h.eqs (hg.at (hx 20 (by decide)) hS.1) (hg.at (hx 21 (by decide)) hS.2.1) (hg.at (hx 24 (by decide)) hS.2.2.1) (hg.at (hx 25 (by decide)) hS.2.2.2.1) (hg.at (hx 27 (by decide)) hS.2.2.2.2)
theorem fl_h (hf : FL a nH nP y) {x : Int32} {z : Int} (hx : x.toInt = z) (h0 : 0 ≤ z) (h1 : z < nH) : (y (a 20) x.toNatClampNeg).toInt = -1 ∨ ((0 ≤ (y (a 20) x.toNatClampNeg).toInt ∧ (y (a 20) x.toNatClampNeg).toInt < nP) ∧ (y (a 24) (y (a 20) x.toNatClampNeg).toNatClampNeg).toInt = z ∧ (y (a 25) (y (a 20) x.toNatClampNeg).toNatClampNeg).toInt ≠ -1 ∧ (1 ≤ (y (a 27) (y (a 20) x.toNatClampNeg).toNatClampNeg).toInt ∧ (y (a 27) (y (a 20) x.toNatClampNeg).toNatClampNeg).toInt ≤ 28800) ∧ 5 ≤ (y (a 21) x.toNatClampNeg).toInt ∧ (y (a 21) x.toNatClampNeg).toInt ≤ 200) := by
  have := hf.1 x.toNatClampNeg (by rw [n_c hx h0]; exact h1)
  unfold fhA at this
  rw [n_c hx h0] at this
  exact this
/-- a hand takes a piece that nobody has -/
theorem fl_take (hf : FL a nH nP y) {h p r t : Int32} {zh zp zr : Int} (hh : h.toInt = zh) (hh0 : 0 ≤ zh) (hhn : zh < nH) (hp : p.toInt = zp) (hp0 : 0 ≤ zp) (hpn : zp < nP) (hr : r.toInt = zr) (hr0 : 5 ≤ zr) (hr1 : zr ≤ 200) (htk : (y (a 25) p.toNatClampNeg).toInt = -1) (ht : t.toInt ≠ -1)
    (e0 : y' (a 20) = upd (y (a 20)) h.toNatClampNeg p) (e1 : y' (a 21) = upd (y (a 21)) h.toNatClampNeg r) (e4 : y' (a 24) = upd (y (a 24)) p.toNatClampNeg h) (e5 : y' (a 25) = upd (y (a 25)) p.toNatClampNeg t) (e7 : y' (a 27) = y (a 27)) : FL a nH nP y' := by
  have hfp := hf.2 p.toNatClampNeg (by rw [n_c hp hp0]; exact hpn) htk
  refine ⟨fun k hk => ?_, fun k hk => ?_⟩
  · unfold fhA
    rw [e0, e1, e4, e5, e7]
    by_cases ek : k = h.toNatClampNeg
    · right
      have x0 : upd (y (a 20)) h.toNatClampNeg p k = p := if_pos ek
      have x1 : upd (y (a 21)) h.toNatClampNeg r k = r := if_pos ek
      rw [x0, x1, show upd (y (a 24)) p.toNatClampNeg h p.toNatClampNeg = h from if_pos rfl, show upd (y (a 25)) p.toNatClampNeg t p.toNatClampNeg = t from if_pos rfl, hp, hr, hh]
      refine ⟨⟨hp0, hpn⟩, ?_, ht, hfp, hr0, hr1⟩
      rw [ek, n_c hh hh0]
    · have x0 : upd (y (a 20)) h.toNatClampNeg p k = y (a 20) k := if_neg ek
      have x1 : upd (y (a 21)) h.toNatClampNeg r k = y (a 21) k := if_neg ek
      rw [x0, x1]
      rcases hf.1 k hk with w | w
      · exact Or.inl w
      · right
        have hne : (y (a 20) k).toNatClampNeg ≠ p.toNatClampNeg := fun e => by
          have := w.2.2.1
          rw [e] at this
          exact this htk
        rw [show upd (y (a 24)) p.toNatClampNeg h (y (a 20) k).toNatClampNeg = y (a 24) (y (a 20) k).toNatClampNeg from if_neg hne, show upd (y (a 25)) p.toNatClampNeg t (y (a 20) k).toNatClampNeg = y (a 25) (y (a 20) k).toNatClampNeg from if_neg hne]
        exact w
  · unfold fpA
    rw [e5, e7]
    by_cases ek : k = p.toNatClampNeg
    · rw [show upd (y (a 25)) p.toNatClampNeg t k = t from if_pos ek]
      exact fun h9 => absurd h9 ht
    · rw [show upd (y (a 25)) p.toNatClampNeg t k = y (a 25) k from if_neg ek]
      exact hf.2 k hk
/-- work goes on -/
theorem fl_work (hf : FL a nH nP y) {p : Nat} {x : Int32} {z : Int} (hx : x.toInt = z) (h1 : 1 ≤ z) (h2 : z ≤ 28800) (e0 : y' (a 20) = y (a 20)) (e1 : y' (a 21) = y (a 21)) (e4 : y' (a 24) = y (a 24)) (e5 : y' (a 25) = y (a 25)) (e7 : y' (a 27) = upd (y (a 27)) p x) : FL a nH nP y' := by
  have key : ∀ k : Nat, (1 ≤ (y (a 27) k).toInt ∧ (y (a 27) k).toInt ≤ 28800) → 1 ≤ (upd (y (a 27)) p x k).toInt ∧ (upd (y (a 27)) p x k).toInt ≤ 28800 := fun k hk => by
    by_cases e : k = p
    · rw [show upd (y (a 27)) p x k = x from if_pos e, hx]; exact ⟨h1, h2⟩
    · rw [show upd (y (a 27)) p x k = y (a 27) k from if_neg e]; exact hk
  refine ⟨fun k hk => ?_, fun k hk => ?_⟩
  · unfold fhA
    rw [e0, e1, e4, e5, e7]
    rcases hf.1 k hk with w | w
    · exact Or.inl w
    · exact Or.inr ⟨w.1, w.2.1, w.2.2.1, key _ w.2.2.2.1, w.2.2.2.2⟩
  · unfold fpA
    rw [e5, e7]
    exact fun h9 => key _ (hf.2 k hk h9)
/-- a piece is done -/
theorem fl_fin (hf : FL a nH nP y) {h p x r : Int32} {zh zp : Int} (hh : h.toInt = zh) (hh0 : 0 ≤ zh) (hhn : zh < nH) (hp : p.toInt = zp) (hp0 : 0 ≤ zp) (hx : x.toInt = -1) (hby : (y (a 24) p.toNatClampNeg).toInt = zh) (htk : (y (a 25) p.toNatClampNeg).toInt ≠ -1)
    (e0 : y' (a 20) = upd (y (a 20)) h.toNatClampNeg x) (e1 : y' (a 21) = upd (y (a 21)) h.toNatClampNeg r) (e4 : y' (a 24) = y (a 24)) (e5 : y' (a 25) = y (a 25)) (e7 : ∀ k, k ≠ p.toNatClampNeg → y' (a 27) k = y (a 27) k) : FL a nH nP y' := by
  refine ⟨fun k hk => ?_, fun k hk => ?_⟩
  · unfold fhA
    rw [e0, e1, e4, e5]
    by_cases ek : k = h.toNatClampNeg
    · left
      rw [show upd (y (a 20)) h.toNatClampNeg x k = x from if_pos ek]; exact hx
    · rw [show upd (y (a 20)) h.toNatClampNeg x k = y (a 20) k from if_neg ek, show upd (y (a 21)) h.toNatClampNeg r k = y (a 21) k from if_neg ek]
      rcases hf.1 k hk with w | w
      · exact Or.inl w
      · right
        have hne : (y (a 20) k).toNatClampNeg ≠ p.toNatClampNeg := fun e => by
          have := w.2.1
          rw [e, hby] at this
          exact ek (by have := n_c hh hh0; omega)
        rw [e7 _ hne]
        exact w
  · unfold fpA
    rw [e5]
    intro h9
    have hne : k ≠ p.toNatClampNeg := fun e => by rw [e] at h9; exact htk h9
    rw [e7 _ hne]
    exact hf.2 k hk h9
/-- one hand more -/
theorem fl_hand (hf : FL a nH nP y) {h x r : Int32} (hh : h.toInt = nH) (hn : 0 ≤ nH) (hx : x.toInt = -1) (e0 : y' (a 20) = upd (y (a 20)) h.toNatClampNeg x) (e1 : y' (a 21) = upd (y (a 21)) h.toNatClampNeg r) (e4 : y' (a 24) = y (a 24)) (e5 : y' (a 25) = y (a 25)) (e7 : y' (a 27) = y (a 27)) : FL a (nH + 1) nP y' := by
  refine ⟨fun k hk => ?_, fun k hk => ?_⟩
  · unfold fhA
    rw [e0, e1, e4, e5, e7]
    by_cases ek : k = h.toNatClampNeg
    · left
      rw [show upd (y (a 20)) h.toNatClampNeg x k = x from if_pos ek]; exact hx
    · rw [show upd (y (a 20)) h.toNatClampNeg x k = y (a 20) k from if_neg ek, show upd (y (a 21)) h.toNatClampNeg r k = y (a 21) k from if_neg ek]
      exact hf.1 k (by have := n_c hh hn; omega)
  · unfold fpA
    rw [e5, e7]
    exact hf.2 k hk
/-- one piece more -/
theorem fl_piece (hf : FL a nH nP y) {p b t w : Int32} {z : Int} (hp : p.toInt = nP) (hn : 0 ≤ nP) (hw : w.toInt = z) (h1 : 1 ≤ z) (h2 : z ≤ 28800) (e0 : y' (a 20) = y (a 20)) (e1 : y' (a 21) = y (a 21)) (e4 : y' (a 24) = upd (y (a 24)) p.toNatClampNeg b) (e5 : y' (a 25) = upd (y (a 25)) p.toNatClampNeg t) (e7 : y' (a 27) = upd (y (a 27)) p.toNatClampNeg w) : FL a nH (nP + 1) y' := by
  have hc := n_c hp hn
  refine ⟨fun k hk => ?_, fun k hk => ?_⟩
  · unfold fhA
    rw [e0, e1, e4, e5, e7]
    rcases hf.1 k hk with v | v
    · exact Or.inl v
    · right
      have hne : (y (a 20) k).toNatClampNeg ≠ p.toNatClampNeg := fun e => by
        have := n_c (x := y (a 20) k) rfl v.1.1
        have := v.1.2
        omega
      rw [show upd (y (a 24)) p.toNatClampNeg b (y (a 20) k).toNatClampNeg = y (a 24) (y (a 20) k).toNatClampNeg from if_neg hne, show upd (y (a 25)) p.toNatClampNeg t (y (a 20) k).toNatClampNeg = y (a 25) (y (a 20) k).toNatClampNeg from if_neg hne, show upd (y (a 27)) p.toNatClampNeg w (y (a 20) k).toNatClampNeg = y (a 27) (y (a 20) k).toNatClampNeg from if_neg hne]
      exact ⟨⟨v.1.1, by have := v.1.2; omega⟩, v.2⟩
  · unfold fpA
    rw [e5, e7]
    by_cases ek : k = p.toNatClampNeg
    · rw [show upd (y (a 27)) p.toNatClampNeg w k = w from if_pos ek, hw]
      exact fun _ => ⟨h1, h2⟩
    · rw [show upd (y (a 25)) p.toNatClampNeg t k = y (a 25) k from if_neg ek, show upd (y (a 27)) p.toNatClampNeg w k = y (a 27) k from if_neg ek]
      exact hf.2 k (by omega)
theorem spA.ag {g : Nat → Nat → Option Nat} {u : Nat → Int} {ln : Nat → Nat} {y0 : Nat → Nat → Int32} (h : spA (u 1) a g y) (hI : IC a u τ ln y0 g) {S : List Nat} (hg : ag τ S y y') (hS : 1 ∉ S) : spA (u 1) a g y' := fun k hk q hq => by
  obtain ⟨q', h1, h2⟩ := hI.2.2.2.1.1 k hk
  rw [hq] at h1
  cases h1
  rw [hg.at h2 hS]
  exact h k hk q hq
theorem spA_one {g g' : Nat → Nat → Option Nat} {u : Nat → Int} {ln : Nat → Nat} {y0 : Nat → Nat → Int32} {n : Int32} {q : Nat} (h : spA (u 1) a g y) (hI : IC a u τ ln y0 g) (hn : n.toInt = u 1) (h0 : 0 ≤ u 1) (hg : g' (a 10) = va_up (g (a 10)) n.toNatClampNeg (some q)) (hold : ∀ z, τ z = 1 → y' z = y z) (hq : 10 ≤ (y' q 0).toInt ∧ (y' q 0).toInt ≤ 200) : spA (u 1 + 1) a g' y' := fun k hk z hz => by
  rw [hg] at hz
  by_cases e : k = n.toNatClampNeg
  · rw [show va_up (g (a 10)) n.toNatClampNeg (some q) k = some q from if_pos e] at hz
    cases hz; exact hq
  · rw [show va_up (g (a 10)) n.toNatClampNeg (some q) k = g (a 10) k from if_neg e] at hz
    have hk2 : (k : Int) < u 1 := by have := n_c hn h0; omega
    obtain ⟨z', h1, h2⟩ := hI.2.2.2.1.1 k hk2
    rw [hz] at h1
    cases h1
    rw [hold z h2]; exact h k hk2 z hz
theorem spA.gk {g g' : Nat → Nat → Option Nat} {u : Nat → Int} {ln : Nat → Nat} {y0 : Nat → Nat → Int32} (h : spA (u 1) a g y) (hI : IC a u τ ln y0 g) (hg : g' (a 10) = g (a 10)) (hold : ∀ z, τ z = 1 → y' z = y z) : spA (u 1) a g' y' := fun k hk z hz => by
  rw [hg] at hz
  obtain ⟨z', h1, h2⟩ := hI.2.2.2.1.1 k hk
  rw [hz] at h1
  cases h1
  rw [hold z h2]; exact h k hk z hz
theorem sp_at {g : Nat → Nat → Option Nat} (h : spA nH a g y) {x : Int32} {z : Int} {q : Nat} (hx : x.toInt = z) (h0 : 0 ≤ z) (h1 : z < nH) (hq : g (a 10) x.toNatClampNeg = some q) : 10 ≤ (y q 0).toInt ∧ (y q 0).toInt ≤ 200 := h _ (by rw [n_c hx h0]; exact h1) q hq
end FLS
theorem z_rem {x y r : Int32} {a b : Int} (he : r = x % y) (hx : x.toInt = a) (hy : y.toInt = b) (h0 : 0 ≤ a) (h1 : 1 ≤ b) : 0 ≤ r.toInt ∧ r.toInt < b := by
  have e : r.toInt = a % b := by rw [he, Int32.toInt_mod, hx, hy, Int.tmod_eq_emod_of_nonneg h0]
  have e1 := Int.emod_nonneg a (b := b) (by omega)
  have e2 := Int.emod_lt_of_pos a (b := b) (by omega)
  omega
theorem z_divc {x y r : Int32} {a b : Int} (he : r = x / y) (hx : x.toInt = a) (hy : y.toInt = b) (h0 : 0 ≤ a) (h1 : 1 ≤ b) (h2 : b ≤ a) : 1 ≤ r.toInt ∧ r.toInt ≤ a := by
  have hr := (z_rg x).2
  rw [hx] at hr
  have e1 : a.tdiv b = a / b := Int.tdiv_eq_ediv_of_nonneg h0
  have e2 : 1 ≤ a / b := (Int.le_ediv_iff_mul_le (by omega)).mpr (by omega)
  have e3 : a / b ≤ a := Int.ediv_le_self b h0
  have e4 : r.toInt = a / b := by rw [he, Int32.toInt_div, hx, hy, e1]; exact z_bm (by omega) (by omega)
  rw [e4]; exact ⟨e2, e3⟩
theorem IC.now9 {a : Nat → Nat} {c : Nat → Int} {τ ln : Nat → Nat} {y : Nat → Nat → Int32} {g : Nat → Nat → Option Nat} (h : IC a c τ ln y g) {v : Int} : IC a (upc c 9 v) τ ln y g := h

theorem FLo.kp {a : Nat → Nat} {u u' : Nat → Int} {τ ln : Nat → Nat} {y y' : Nat → Nat → Int32} {g g' : Nat → Nat → Option Nat} (h : FLo a u g y) (hI : IC a u τ ln y g) (hk : kpM τ y g y' g') (h1 : u' 1 = u 1) (h2 : u' 2 = u 2) (h9 : u' 9 = u 9) : FLo a u' g' y' := by
  obtain ⟨e0, e1, e2, e3⟩ := h
  have hx := hI.1
  have k := fun (j : Nat) (hj : j ∈ fxs) (ht : kpt (10 + j) = true) => hk (a j) (by rw [hx j hj]; exact ht)
  unfold FLo
  rw [h1, h2, h9, (k 3 (by decide) (by decide)).1]
  exact ⟨e0, e1, e2.eqs (k 20 (by decide) (by decide)).1 (k 21 (by decide) (by decide)).1 (k 24 (by decide) (by decide)).1 (k 25 (by decide) (by decide)).1 (k 27 (by decide) (by decide)).1, e3.gk hI (k 10 (by decide) (by decide)).2 (fun z hz => (hk z (by rw [hz]; decide)).1)⟩
theorem FLo.m {a : Nat → Nat} {u : Nat → Int} {τ ln : Nat → Nat} {y y' : Nat → Nat → Int32} {g g' : Nat → Nat → Option Nat} (h : FLo a u g y) (hI : IC a u τ ln y g) {S : List Nat} (hg : ag τ S y y') (hS : 13 ∉ S ∧ 30 ∉ S ∧ 31 ∉ S ∧ 34 ∉ S ∧ 35 ∉ S ∧ 37 ∉ S ∧ 1 ∉ S) (hgg : g' (a 10) = g (a 10)) : FLo a u g' y' := by
  obtain ⟨e0, e1, e2, e3⟩ := h
  have hx := hI.1
  unfold FLo
  rw [hg.at (hx 3 (by decide)) hS.1]
  exact ⟨e0, e1, e2.ag hx hg ⟨hS.2.1, hS.2.2.1, hS.2.2.2.1, hS.2.2.2.2.1, hS.2.2.2.2.2.1⟩, e3.gk hI hgg (fun z hz => hg.at hz hS.2.2.2.2.2.2)⟩

/-! WHAT READERS FOUND: the class's two marks of a piece are the reference's two places -/
def SLf (a : Nat → Nat) (n : Int) (g : Nat → Nat → Option Nat) (y : Nat → Nat → Int32) (s : Nat → Int32) : Prop := (∀ j : Nat, (j : Int) < n → ∀ q, g (a 11) j = some q → y q 9 = s (2 * j) ∧ y q 10 = s (2 * j + 1)) ∧ (∀ i j : Nat, (i : Int) < n → (j : Int) < n → ∀ q, g (a 11) i = some q → g (a 11) j = some q → i = j) ∧ ∀ j : Nat, 2 * n ≤ (j : Int) → s j = 0
section SLS
variable {a : Nat → Nat} {u u' : Nat → Int} {τ ln : Nat → Nat} {y y' y0 : Nat → Nat → Int32} {g g' : Nat → Nat → Option Nat} {s : Nat → Int32}
theorem sl_c (hI : IC a u τ ln y0 g) (k : Nat) (hk : (k : Int) < u 2) (q : Nat) (hq : g (a 11) k = some q) : τ q = 2 := by
  obtain ⟨q', h1, h2⟩ := hI.2.2.2.1.2.1 k hk
  rw [hq] at h1
  cases h1
  exact h2
theorem SLf.gk (h : SLf a (u 2) g y s) (hI : IC a u τ ln y0 g) (hg : g' (a 11) = g (a 11)) (hold : ∀ z, τ z = 2 → y' z = y z) : SLf a (u 2) g' y' s := by
  refine ⟨fun j hj q hq => ?_, fun i j hi hj q h1 h2 => ?_, h.2.2⟩
  · rw [hg] at hq
    rw [hold q (sl_c hI j hj q hq)]; exact h.1 j hj q hq
  · rw [hg] at h1 h2
    exact h.2.1 i j hi hj q h1 h2
theorem sl_piece {Q : Nat} {n : Int32} (h : SLf a (u 2) g y s) (hI : IC a u τ ln y0 g) (hn : n.toInt = u 2) (h0 : 0 ≤ u 2) (hg : g' (a 11) = va_up (g (a 11)) n.toNatClampNeg (some Q)) (hold : ∀ z, τ z = 2 → y' z = y z) (hQ : τ Q = 0) (h9 : y' Q 9 = 0) (h10 : y' Q 10 = 0) : SLf a (u 2 + 1) g' y' s := by
  have hc := n_c hn h0
  have up : va_up (g (a 11)) n.toNatClampNeg (some Q) n.toNatClampNeg = some Q := if_pos rfl
  have uo : ∀ k, k ≠ n.toNatClampNeg → va_up (g (a 11)) n.toNatClampNeg (some Q) k = g (a 11) k := fun k hk => if_neg hk
  refine ⟨fun j hj q hq => ?_, fun i j hi hj q h1 h2 => ?_, fun j hj => h.2.2 j (by omega)⟩
  · rw [hg] at hq
    by_cases e : j = n.toNatClampNeg
    · rw [e, up] at hq
      have e2 : Q = q := Option.some.inj hq
      rw [← e2, h9, h10]
      exact ⟨(h.2.2 (2 * j) (by omega)).symm, (h.2.2 (2 * j + 1) (by omega)).symm⟩
    · rw [uo j e] at hq
      have hj2 : (j : Int) < u 2 := by omega
      rw [hold q (sl_c hI j hj2 q hq)]; exact h.1 j hj2 q hq
  · rw [hg] at h1 h2
    by_cases e : i = n.toNatClampNeg
    · by_cases e2 : j = n.toNatClampNeg
      · rw [e, e2]
      · rw [e, up] at h1
        rw [uo j e2, ← h1] at h2
        have := sl_c hI j (by omega) Q h2
        omega
    · rw [uo i e] at h1
      by_cases e2 : j = n.toNatClampNeg
      · rw [e2, up] at h2
        rw [← h2] at h1
        have := sl_c hI i (by omega) Q h1
        omega
      · rw [uo j e2] at h2
        exact h.2.1 i j (by omega) (by omega) q h1 h2
theorem sl_slip {n : Int} {Q j f m : Nat} {b : Int32} (h : SLf a n g y s) (hj : (j : Int) < n) (hQ : g (a 11) j = some Q) (hf : (f = 9 ∧ m = 2 * j) ∨ (f = 10 ∧ m = 2 * j + 1)) : SLf a n g (up2 y Q f b) (upd s m b) := by
  have uo : ∀ k, k ≠ m → upd s m b k = s k := fun k hk => if_neg hk
  refine ⟨fun i hi q hq => ?_, h.2.1, fun i hi => ?_⟩
  · by_cases e : i = j
    · rw [e] at hq ⊢
      have e2 : Q = q := Option.some.inj (hQ.symm.trans hq)
      have w := h.1 j hj Q hQ
      rw [← e2]
      rcases hf with ⟨hf, hm⟩ | ⟨hf, hm⟩
      · rw [hf, up2_i, up2_e (by decide), uo (2 * j + 1) (by omega), show upd s m b (2 * j) = b from if_pos hm.symm]
        exact ⟨rfl, w.2⟩
      · rw [hf, up2_i, up2_e (by decide), uo (2 * j) (by omega), show upd s m b (2 * j + 1) = b from if_pos hm.symm]
        exact ⟨w.1, rfl⟩
    · have hne : q ≠ Q := fun e2 => e (h.2.1 i j hi hj q hq (by rw [e2]; exact hQ))
      rw [up2_o hne, uo (2 * i) (by omega), uo (2 * i + 1) (by omega)]
      exact h.1 i hi q hq
  · rw [uo i (by omega)]
    exact h.2.2 i hi
theorem SLf.kp (h : SLf a (u 2) g y (y (a 83))) (hI : IC a u τ ln y g) (hk : kpM τ y g y' g') (h2 : u' 2 = u 2) : SLf a (u' 2) g' y' (y' (a 83)) := by
  have hx := hI.1
  rw [h2, (hk (a 83) (by rw [hx 83 (by decide)]; decide)).1]
  exact h.gk hI (hk (a 11) (by rw [hx 11 (by decide)]; decide)).2 (fun z hz => (hk z (by rw [hz]; decide)).1)
end SLS
def ush (x k : Int32) : Int32 := (x.toUInt32 >>> (k.toUInt32 &&& Int32.toUInt32 31)).toInt32
def bcf (p : Int32) : Int32 := ((((((p - (ush p 1 &&& 1431655765)) &&& 858993459) + (ush (p - (ush p 1 &&& 1431655765)) 2 &&& 858993459)) + ush (((p - (ush p 1 &&& 1431655765)) &&& 858993459) + (ush (p - (ush p 1 &&& 1431655765)) 2 &&& 858993459)) 4) &&& 252645135) + ush (((((p - (ush p 1 &&& 1431655765)) &&& 858993459) + (ush (p - (ush p 1 &&& 1431655765)) 2 &&& 858993459)) + ush (((p - (ush p 1 &&& 1431655765)) &&& 858993459) + (ush (p - (ush p 1 &&& 1431655765)) 2 &&& 858993459)) 4) &&& 252645135) 8) + ush ((((((p - (ush p 1 &&& 1431655765)) &&& 858993459) + (ush (p - (ush p 1 &&& 1431655765)) 2 &&& 858993459)) + ush (((p - (ush p 1 &&& 1431655765)) &&& 858993459) + (ush (p - (ush p 1 &&& 1431655765)) 2 &&& 858993459)) 4) &&& 252645135) + ush (((((p - (ush p 1 &&& 1431655765)) &&& 858993459) + (ush (p - (ush p 1 &&& 1431655765)) 2 &&& 858993459)) + ush (((p - (ush p 1 &&& 1431655765)) &&& 858993459) + (ush (p - (ush p 1 &&& 1431655765)) 2 &&& 858993459)) 4) &&& 252645135) 8) 16 &&& 63
def lf0 (x z : Int32) : Int32 := if bcf (x &&& z) = 0 then -1 else bcf (x &&& (z ^^^ (-1))) * bcf (z &&& (x ^^^ (-1))) / bcf (x &&& z)
def lf (x z w : Int32) : Int32 := if w = 0 then lf0 x z else if w = 1 then bcf (x ||| z) else bcf (x &&& z)
def lF (s : Nat → Int32) (n : Int) (p w : Int32) : Int32 := if 0 ≤ p.toInt ∧ p.toInt < n ∧ 0 ≤ w.toInt ∧ w.toInt ≤ 2 then lf (s (2 * p.toNatClampNeg)) (s (2 * p.toNatClampNeg + 1)) w else -1
theorem lf0_z {x z : Int32} (h : bcf (x &&& z) = 0) : (-1 : Int32) = lf0 x z := by unfold lf0; rw [if_pos h]
theorem lf0_n {x z : Int32} (h : ¬ bcf (x &&& z) = 0) : bcf (x &&& (z ^^^ (-1))) * bcf (z &&& (x ^^^ (-1))) / bcf (x &&& z) = lf0 x z := by unfold lf0; rw [if_neg h]
theorem lF_out {s : Nat → Int32} {n : Int} {p w : Int32} (h : ¬ (0 ≤ p.toInt ∧ p.toInt < n ∧ 0 ≤ w.toInt ∧ w.toInt ≤ 2)) : (-1 : Int32) = lF s n p w := by unfold lF; rw [if_neg h]
theorem lF_in {s : Nat → Int32} {n : Int} {p w x z : Int32} (hp : 0 ≤ p.toInt ∧ p.toInt < n) (hw : 0 ≤ w.toInt ∧ w.toInt ≤ 2) (e1 : x = s (2 * p.toNatClampNeg)) (e2 : z = s (2 * p.toNatClampNeg + 1)) : lf x z w = lF s n p w := by unfold lF; rw [if_pos ⟨hp.1, hp.2, hw.1, hw.2⟩, e1, e2]
theorem w_is {w : Int32} (c : Int32) {k : Int} (h : w.toInt = k) (hc : c.toInt = k) : w = c := Int32.toInt_inj.mp (h.trans hc.symm)
theorem lF_0 {s : Nat → Int32} {n : Int} {p w x z : Int32} (hp : 0 ≤ p.toInt ∧ p.toInt < n) (hw : w.toInt = 0) (e1 : x = s (2 * p.toNatClampNeg)) (e2 : z = s (2 * p.toNatClampNeg + 1)) : lf0 x z = lF s n p w := by
  rw [← lF_in (w := w) hp ⟨by omega, by omega⟩ e1 e2, w_is 0 hw rfl]; unfold lf; rw [if_pos rfl]
theorem lF_1 {s : Nat → Int32} {n : Int} {p w x z : Int32} (hp : 0 ≤ p.toInt ∧ p.toInt < n) (hw : w.toInt = 1) (e1 : x = s (2 * p.toNatClampNeg)) (e2 : z = s (2 * p.toNatClampNeg + 1)) : bcf (x ||| z) = lF s n p w := by
  rw [← lF_in (w := w) hp ⟨by omega, by omega⟩ e1 e2, w_is 1 hw rfl]; unfold lf; rw [if_neg (by decide), if_pos rfl]
theorem lF_2 {s : Nat → Int32} {n : Int} {p w x z : Int32} (hp : 0 ≤ p.toInt ∧ p.toInt < n) (hw : w.toInt = 2) (e1 : x = s (2 * p.toNatClampNeg)) (e2 : z = s (2 * p.toNatClampNeg + 1)) : bcf (x &&& z) = lF s n p w := by
  rw [← lF_in (w := w) hp ⟨by omega, by omega⟩ e1 e2, w_is 2 hw rfl]; unfold lf; rw [if_neg (by decide), if_neg (by decide)]
def pq0 (D : va_G) (a : Nat → Nat) (k : Nat → ClassId) (τ : Nat → Nat) (y : Nat → Nat → Int32) (g : Nat → Nat → Option Nat) (u' : Nat → Int) (s : Nat → Int32) (sz : Nat) (H : Heap) : Prop := ∃ (τ' ln' : Nat → Nat) (y' : Nat → Nat → Int32) (g' : Nat → Nat → Option Nat), mono τ τ' sz ∧ kpM0 τ y g y' g' ∧ IC a u' τ' ln' y' g' ∧ FLo a u' g' y' ∧ SLf a (u' 2) g' y' s ∧ tw D a k τ' ln' y' g' H
