/-! ===== pictures of the fan ===== -/
abbrev bsAt (h : zHp) (b : Nat) (D : bT) (w : Nat × Nat) : Prop := baAt h b D.1 D.2.1 D.2.2.1 D.2.2.2 (w.1 : Int) (w.2 : Int)
def coAt (h : zHp) (f _lo _n nb : Nat) (cb : Nat → Nat) : Prop := nb = 22 ∧ (∃ cf : Nat → Option Nat, h (f + 1) = some (.inr (.inr (8, 22, cf))) ∧ ∀ i, i < 22 → cf i = some (cb i)) ∧
  (∀ i, i < nb → f + 2 ≤ cb i ∧ cb i + 15 ≤ f + 332) ∧ (∀ i j, i < j → j < nb → cb i + 15 ≤ cb j) ∧ ∀ i, i < nb → ∃ (H : Nat → Nat) (c : Nat) (cm : Nat → Nat) (ce : Nat → Nat → Int) (wt wb : Int), c ≤ 4 ∧ baAt h (cb i) H c cm ce wt wb
theorem baAt.fresh {h : zHp} {b : Nat} {f0 : Nat → Int} {rf : Nat → Option Nat} (h0 : h b = some (.inl (8, [.inr (some (b + 1)), .inl 0, .inr (some (b + 2)), .inl 0, .inl 0]))) (h1 : zar h (b + 1) 9 f0) (hf : ∀ i, i < 9 → f0 i = 0) (h2 : h (b + 2) = some (.inr (.inr (1, 4, rf)))) (hr : ∀ i, i < 4 → rf i = some (b + 3 * i + 3)) (h3 : ∀ i, i < 4 → rawPo h (b + 3 * i + 3)) :
    baAt h b (fun _ => 0) 0 (fun _ => 0) (fun _ _ => 0) 0 0 :=
  ⟨f0, rf, fun i => i, h0, h1, h2, fun i hi => hf i hi, hr, ⟨fun i hi => hi, fun i j hij _ => Nat.ne_of_lt hij⟩, fun a ha => absurd ha (Nat.not_lt_zero a), h3⟩
/-- the cones stay when nothing of theirs but one cone is written -/
theorem coAt.upd {h h' : zHp} {f lo n nb k : Nat} {cb : Nat → Nat} {H : Nat → Nat} {c : Nat} {cm : Nat → Nat} {ce : Nat → Nat → Int} {wt wb : Int} (hc : coAt h f lo n nb cb) (hc4 : c ≤ 4) (hb : baAt h' (cb k) H c cm ce wt wb) (hk : k < nb)
    (fr : ∀ q, (q = f + 1 ∨ (f + 2 ≤ q ∧ q < f + 332)) → (q < cb k ∨ cb k + 15 ≤ q) → h' q = h q) : coAt h' f lo n nb cb := by
  obtain ⟨c1, ⟨cf, c2, c2'⟩, c3, c4, c5⟩ := hc
  have hk3 := c3 k hk
  refine ⟨c1, ⟨cf, (fr _ (Or.inl rfl) (by omega)).trans c2, c2'⟩, c3, c4, fun i hi => ?_⟩
  by_cases e : i = k
  · subst e; exact ⟨H, c, cm, ce, wt, wb, hc4, hb⟩
  · obtain ⟨H', c', cm', ce', wt', wb', q1, q2⟩ := c5 i hi
    have h3 := c3 i hi
    have h4 : cb i + 15 ≤ cb k ∨ cb k + 15 ≤ cb i := by
      by_cases x : i < k
      · exact Or.inl (c4 i k x hk)
      · exact Or.inr (c4 k i (by omega) hi)
    exact ⟨H', c', cm', ce', wt', wb', q1, q2.frame q1 (fun q a1 a2 => fr q (Or.inr ⟨by omega, by omega⟩) (by omega))⟩
theorem coAt.frame {h h' : zHp} {f lo n n' nb : Nat} {cb : Nat → Nat} (hc : coAt h f lo n nb cb) (_ : n ≤ n') (f1 : h' (f + 1) = h (f + 1)) (fr : ∀ i, i < nb → ∀ q, cb i ≤ q → q < cb i + 15 → h' q = h q) : coAt h' f lo n' nb cb := by
  obtain ⟨c1, ⟨cf, c2, c2'⟩, c3, c4, c5⟩ := hc
  refine ⟨c1, ⟨cf, f1.trans c2, c2'⟩, c3, c4, fun i hi => ?_⟩
  obtain ⟨H', c', cm', ce', wt', wb', q1, q2⟩ := c5 i hi
  exact ⟨H', c', cm', ce', wt', wb', q1, q2.frame q1 (fr i hi)⟩
