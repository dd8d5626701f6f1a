/-! ===== the state that both sides have; their pictures of it ===== -/
/-- prime, number of points, coordinates, current polynomial -/
abbrev pT : Type := Int × Nat × (Nat → Int) × (Nat → Int) × (Nat → Int)
/-- slots: kinds (0, 1, 2), lengths, elements, polynomials -/
abbrev lT : Type := (Nat → Nat) × (Nat → Nat) × (Nat → Nat → Int) × (Nat → Nat → Int)
/-- a text: its length, its bytes -/
abbrev tT : Type := Nat × (Nat → Int)
def pwf (P : pT) : Prop := zprime P.1 ∧ P.2.1 ≤ 8 ∧ (∀ k, k < P.2.1 → (0 ≤ P.2.2.1 k ∧ P.2.2.1 k < P.1) ∧ (0 ≤ P.2.2.2.1 k ∧ P.2.2.2.1 k < P.1)) ∧ (∀ i j, i < j → j < P.2.1 → ¬ (P.2.2.1 i = P.2.2.1 j ∧ P.2.2.2.1 i = P.2.2.2.1 j)) ∧ ∀ m, m < 81 → 0 ≤ P.2.2.2.2 m ∧ P.2.2.2.2 m < P.1
noncomputable abbrev pN (P : pT) : Nat := zfN P.1 P.2.1 P.2.2.1 P.2.2.2.1
noncomputable abbrev pB (P : pT) : Nat → bT := zfb P.1 P.2.1 P.2.2.1 P.2.2.2.1
noncomputable abbrev pW (P : pT) : Nat → Nat × Nat := zfl P.1 P.2.1 P.2.2.1 P.2.2.2.1
def lwf (L : lT) : Prop := ∀ k, k < 4 → L.1 k ≤ 2 ∧ (L.1 k = 1 → L.2.1 k ≤ 20 ∧ ∀ i, i < L.2.1 k → 0 ≤ L.2.2.1 k i ∧ L.2.2.1 k i ≤ 9999) ∧ (L.1 k = 2 → ∀ m, m < 81 → 0 ≤ L.2.2.2 k m ∧ L.2.2.2 k m < 32)
def iwf (I : tT) : Prop := I.1 ≤ 60 ∧ ∀ i, i < I.1 → 1 ≤ I.2 i ∧ I.2 i ≤ 127
def owf (O : tT) : Prop := O.1 ≤ 90 ∧ ∀ i, i < O.1 → 0 ≤ O.2 i ∧ O.2 i ≤ 127
def vwf (V : Int × pT) : Prop := (V.1 = 0 ∨ V.1 = 1) ∧ (V.1 = 1 → pwf V.2)
/-! the class's cells, from B on -/
def gPts (h : zHp) (b : Nat) (P : pT) : Prop := ∃ xs ys : Nat → Int, h b = some (.inl (6, [.inl P.1, .inl (P.2.1 : Int), .inr (some (b + 1)), .inr (some (b + 2))])) ∧ zar h (b + 1) 8 xs ∧ zar h (b + 2) 8 ys ∧ ∀ k, k < P.2.1 → xs k = P.2.2.1 k ∧ ys k = P.2.2.2.1 k
def gPol (h : zHp) (c : Nat) (C : Nat → Int) : Prop := ∃ f : Nat → Int, h c = some (.inl (7, [.inr (some (c + 1))])) ∧ zar h (c + 1) 81 f ∧ ∀ m, m < 81 → f m = C m
def gWrk (h : zHp) (B : Nat) : Prop := (∃ (s : Nat) (E : eT), elAt h (B + 11) (B + 1) s E) ∧ (∃ u v t : Int, h (B + 34) = some (.inl (5, [.inl u, .inl v, .inl t]))) ∧ ∃ (H : Nat → Nat) (c : Nat) (cm : Nat → Nat) (ce : Nat → Nat → Int) (wt wb : Int), c ≤ 4 ∧ baAt h (B + 35) H c cm ce wt wb
def gFan (h : zHp) (B lo n : Nat) (P : pT) (nb : Nat) (cb : Nat → Nat) : Prop := ∃ sz : Nat, h (B + 50) = some (.inl (3, [.inl (sz : Int), .inr (some (B + 51))])) ∧ coAt h (B + 50) lo n nb cb ∧ (sz = 0 ∨ (sz = pN P ∧ pN P ≤ nb ∧ ∀ i, i < pN P → bsAt h (cb i) (pB P i) (pW P i)))
def gInp (h : zHp) (B : Nat) (I : tT) : Prop := ∃ (by' nu : Nat → Int) (nc : Int), h (B + 382) = some (.inl (4, [.inl (I.1 : Int), .inr (some (B + 383)), .inl nc, .inr (some (B + 384))])) ∧ h (B + 383) = some (.inr (.inl (1, 60, by'))) ∧ zar h (B + 384) 30 nu ∧ ∀ i, i < I.1 → by' i = I.2 i
def gOut (h : zHp) (B lo n : Nat) (O : tT) (vb N : Nat) : Prop := ∃ (by' : Nat → Int) (ml : Int), h (B + 385) = some (.inl (0, [.inr (some vb), .inl 0, .inl ml, .inl (O.1 : Int)])) ∧ h vb = some (.inr (.inl (1, N, by'))) ∧ O.1 ≤ N ∧ N ≤ 200 ∧ (∀ i, i < O.1 → by' i = O.2 i) ∧ (vb = B + 386 ∨ (lo ≤ vb ∧ vb < n))
def gSlt (h : zHp) (B : Nat) (L : lT) : Prop := (∃ rf : Nat → Option Nat, h (B + 387) = some (.inr (.inr (9, 4, rf))) ∧ ∀ k, k < 4 → rf k = some (B + 2 * k + 388)) ∧ ∀ k, k < 4 → ∃ (le : Int) (nu : Nat → Int), h (B + 2 * k + 388) = some (.inl (9, [.inl (L.1 k : Int), .inl le, .inr (some (B + 2 * k + 389))])) ∧ zar h (B + 2 * k + 389) 81 nu ∧ (L.1 k = 1 → le = (L.2.1 k : Int) ∧ ∀ i, i < L.2.1 k → nu i = L.2.2.1 k i) ∧ (L.1 k = 2 → ∀ m, m < 81 → nu m = L.2.2.2 k m)
def clAt (h : zHp) (B lo n : Nat) (P : pT) (L : lT) (I O : tT) (V : Int × pT) (nb : Nat) (cb : Nat → Nat) (vb N : Nat) : Prop :=
  h B = some (.inl (10, [.inr (some (B + 1)), .inr (some (B + 4)), .inr (some (B + 6)), .inr (some (B + 9)), .inl V.1, .inr (some (B + 11)), .inr (some (B + 34)), .inr (some (B + 35)), .inr (some (B + 50)), .inr (some (B + 382)), .inr (some (B + 385)), .inr (some (B + 387))])) ∧
  gPts h (B + 1) P ∧ gPol h (B + 4) P.2.2.2.2 ∧ gPts h (B + 6) V.2 ∧ gPol h (B + 9) V.2.2.2.2.2 ∧ gWrk h B ∧ gFan h B lo n P nb cb ∧ gInp h B I ∧ gOut h B lo n O vb N ∧ gSlt h B L ∧ (∀ i, i < nb → vb < cb i ∨ cb i + 15 ≤ vb) ∧ B + 396 ≤ lo ∧ lo ≤ n
theorem gPts.frame {h h' : zHp} {b : Nat} {P : pT} (g : gPts h b P) (f : ∀ q, b ≤ q → q < b + 3 → h' q = h q) : gPts h' b P := by
  obtain ⟨xs, ys, h1, h2, h3, h4⟩ := g
  exact ⟨xs, ys, (f _ (by omega) (by omega)).trans h1, (f _ (by omega) (by omega)).trans h2, (f _ (by omega) (by omega)).trans h3, h4⟩
theorem gPol.frame {h h' : zHp} {c : Nat} {C : Nat → Int} (g : gPol h c C) (f : ∀ q, c ≤ q → q < c + 2 → h' q = h q) : gPol h' c C := by
  obtain ⟨u, h1, h2, h3⟩ := g
  exact ⟨u, (f _ (by omega) (by omega)).trans h1, (f _ (by omega) (by omega)).trans h2, h3⟩
theorem gWrk.frame {h h' : zHp} {B : Nat} (g : gWrk h B) (f : ∀ q, B + 11 ≤ q → q < B + 50 → h' q = h q) : gWrk h' B := by
  obtain ⟨⟨s, E, h1⟩, ⟨u, v, t, h2⟩, H, c, cm, ce, wt, wb, h3, h4⟩ := g
  exact ⟨⟨s, E, h1.frame (fun q a b => f q (by omega) (by omega))⟩, ⟨u, v, t, (f _ (by omega) (by omega)).trans h2⟩, H, c, cm, ce, wt, wb, h3, h4.frame h3 (fun q a b => f q (by omega) (by omega))⟩
theorem gFan.frame {h h' : zHp} {B lo n n' nb : Nat} {P : pT} {cb : Nat → Nat} (hp : pwf P) (g : gFan h B lo n P nb cb) (hn : n ≤ n') (f : ∀ q, B + 50 ≤ q → q < B + 52 → h' q = h q) (f2 : ∀ i, i < nb → ∀ q, cb i ≤ q → q < cb i + 15 → h' q = h q) : gFan h' B lo n' P nb cb := by
  obtain ⟨sz, h1, h2, h3⟩ := g
  refine ⟨sz, (f _ (by omega) (by omega)).trans h1, h2.frame hn (f _ (by omega) (by omega)) f2, h3.imp id (fun ⟨a, b, c⟩ => ⟨a, b, fun i hi => (c i hi).frame ?_ (f2 i (by omega))⟩)⟩
  exact (zbas_facts hp.1 hp.2.1 (zfw_bd hp.1 hp.2.1 i).1 (zfw_bd hp.1 hp.2.1 i).2.2.1).1
/-- when the points change the cones are forgotten -/
theorem gFan.fresh {h : zHp} {B lo n nb : Nat} {P : pT} {cb : Nat → Nat} (h1 : h (B + 50) = some (.inl (3, [.inl 0, .inr (some (B + 51))]))) (h2 : coAt h (B + 50) lo n nb cb) : gFan h B lo n P nb cb := ⟨0, h1, h2, Or.inl rfl⟩
theorem gFan.co {h : zHp} {B lo n nb : Nat} {P : pT} {cb : Nat → Nat} (g : gFan h B lo n P nb cb) : coAt h (B + 50) lo n nb cb := g.choose_spec.2.1
theorem gInp.frame {h h' : zHp} {B : Nat} {I : tT} (g : gInp h B I) (f : ∀ q, B + 382 ≤ q → q < B + 385 → h' q = h q) : gInp h' B I := by
  obtain ⟨a, b, c, h1, h2, h3, h4⟩ := g
  exact ⟨a, b, c, (f _ (by omega) (by omega)).trans h1, (f _ (by omega) (by omega)).trans h2, (f _ (by omega) (by omega)).trans h3, h4⟩
theorem gOut.frame {h h' : zHp} {B lo n n' vb N : Nat} {O : tT} (g : gOut h B lo n O vb N) (hn : n ≤ n') (f : h' (B + 385) = h (B + 385)) (f2 : h' vb = h vb) : gOut h' B lo n' O vb N := by
  obtain ⟨a, b, h1, h2, h3, h4, h5, h6⟩ := g
  exact ⟨a, b, f.trans h1, f2.trans h2, h3, h4, h5, h6.imp id (fun q => ⟨q.1, by omega⟩)⟩
theorem gOut.vb {h : zHp} {B lo n vb N : Nat} {O : tT} (g : gOut h B lo n O vb N) : vb = B + 386 ∨ (lo ≤ vb ∧ vb < n) := by
  obtain ⟨a, b, h1, h2, h3, h4, h5, h6⟩ := g
  exact h6
theorem gSlt.frame {h h' : zHp} {B : Nat} {L : lT} (g : gSlt h B L) (f : ∀ q, B + 387 ≤ q → q < B + 396 → h' q = h q) : gSlt h' B L := by
  obtain ⟨⟨rf, h1, h2⟩, h3⟩ := g
  refine ⟨⟨rf, (f _ (by omega) (by omega)).trans h1, h2⟩, fun k hk => ?_⟩
  obtain ⟨le, nu, a1, a2, a3⟩ := h3 k hk
  exact ⟨le, nu, (f _ (by omega) (by omega)).trans a1, (f _ (by omega) (by omega)).trans a2, a3⟩
