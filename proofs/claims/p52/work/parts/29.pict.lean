/-! ===== pictures: what the heap holds of an elimination, of a basis ===== -/
abbrev zar (h : zHp) (a N : Nat) (f : Nat → Int) : Prop := h a = some (.inr (.inl (0, N, f)))
def elAt (h : zHp) (e pb s : Nat) (E : eT) : Prop := ∃ (pv em v cb : Nat → Int) (RR OO : Nat → Nat → Int),
  h e = some (.inl (2, [.inr (some pb), .inr (some (e + 1)), .inr (some (e + 10)), .inr (some (e + 19)), .inl (E.1 : Int), .inr (some (e + 20)), .inr (some (e + 21)), .inr (some (e + 22))])) ∧
  h (e + 1) = some (.inr (.inr (99, 8, fun i => if i < 8 then some (e + 1 + 1 + i) else none))) ∧ h (e + 10) = some (.inr (.inr (99, 8, fun i => if i < 8 then some (e + 10 + 1 + i) else none))) ∧
  zar h (e + 19) 8 pv ∧ zar h (e + 20) 8 em ∧ zar h (e + 21) 8 v ∧ zar h (e + 22) 8 cb ∧ (∀ r, r < 8 → zar h (e + r + 2) 8 (RR r)) ∧ (∀ r, r < 8 → zar h (e + r + 11) 8 (OO r)) ∧
  ∀ r, r < E.1 → pv r = (eP E r : Int) ∧ em r = (eM E r : Int) ∧ ∀ k, k < s → RR r k = eR E r k ∧ OO r k = eO E r k
/-- a basis polynomial's cells at a -/
def poAt (h : zHp) (a m t : Nat) (mo fa : Nat → Int) : Prop := h a = some (.inl (1, [.inl (m : Int), .inl (t : Int), .inr (some (a + 1)), .inr (some (a + 2))])) ∧ zar h (a + 1) 9 mo ∧ zar h (a + 2) 9 fa ∧ t ≤ 9
def rawPo (h : zHp) (a : Nat) : Prop := ∃ (x0 x1 : Int) (mo fa : Nat → Int), h a = some (.inl (1, [.inl x0, .inl x1, .inr (some (a + 1)), .inr (some (a + 2))])) ∧ zar h (a + 1) 9 mo ∧ zar h (a + 2) 9 fa
def baAt (h : zHp) (b : Nat) (H : Nat → Nat) (c : Nat) (cm : Nat → Nat) (ce : Nat → Nat → Int) (wt wb : Int) : Prop := ∃ (hf : Nat → Int) (rf : Nat → Option Nat) (pi : Nat → Nat),
  h b = some (.inl (8, [.inr (some (b + 1)), .inl (c : Int), .inr (some (b + 2)), .inl wt, .inl wb])) ∧ zar h (b + 1) 9 hf ∧ h (b + 2) = some (.inr (.inr (1, 4, rf))) ∧ (∀ i, i < 9 → hf i = (H i : Int)) ∧
  (∀ i, i < 4 → rf i = some (b + 3 * pi i + 3)) ∧ ((∀ i, i < 4 → pi i < 4) ∧ ∀ i j, i < j → j < 4 → pi i ≠ pi j) ∧ (∀ a, a < c → ∃ (t : Nat) (mo fa : Nat → Int), poAt h (b + 3 * pi a + 3) (cm a) t mo fa ∧ zRep t mo fa (ce a)) ∧ ∀ i, i < 4 → rawPo h (b + 3 * i + 3)
theorem poAt.frame {h h' : zHp} {a m t : Nat} {mo fa : Nat → Int} (hp : poAt h a m t mo fa) (hf : ∀ q, a ≤ q → q < a + 3 → h' q = h q) : poAt h' a m t mo fa :=
  ⟨(hf a (by omega) (by omega)).trans hp.1, (hf _ (by omega) (by omega)).trans hp.2.1, (hf _ (by omega) (by omega)).trans hp.2.2.1, hp.2.2.2⟩
theorem poAt.raw {h : zHp} {a m t : Nat} {mo fa : Nat → Int} (hp : poAt h a m t mo fa) : rawPo h a := ⟨m, t, mo, fa, hp.1, hp.2.1, hp.2.2.1⟩
theorem rawPo.frame {h h' : zHp} {a : Nat} (hp : rawPo h a) (hf : ∀ q, a ≤ q → q < a + 3 → h' q = h q) : rawPo h' a := by
  obtain ⟨x0, x1, mo, fa, h1, h2, h3⟩ := hp
  exact ⟨x0, x1, mo, fa, (hf a (by omega) (by omega)).trans h1, (hf _ (by omega) (by omega)).trans h2, (hf _ (by omega) (by omega)).trans h3⟩
theorem baAt.frame {h h' : zHp} {b c : Nat} {H cm : Nat → Nat} {ce : Nat → Nat → Int} {wt wb : Int} (hb : baAt h b H c cm ce wt wb) (hc : c ≤ 4) (hf : ∀ q, b ≤ q → q < b + 15 → h' q = h q) : baAt h' b H c cm ce wt wb := by
  obtain ⟨hh, rf, pi, h1, h2, h3, h4, h5, h6, h7, h8⟩ := hb
  refine ⟨hh, rf, pi, (hf _ (by omega) (by omega)).trans h1, (hf _ (by omega) (by omega)).trans h2, (hf _ (by omega) (by omega)).trans h3, h4, h5, h6, fun a ha => ?_, fun i hi => (h8 i hi).frame (fun q a1 a2 => hf q (by omega) (by omega))⟩
  obtain ⟨t, mo, fa, q1, q2⟩ := h7 a ha
  have := h6.1 a (by omega)
  exact ⟨t, mo, fa, q1.frame (fun q a1 a2 => hf q (by omega) (by omega)), q2⟩
theorem elAt.frame {h h' : zHp} {e pb s : Nat} {E : eT} (he : elAt h e pb s E) (hf : ∀ q, e ≤ q → q < e + 23 → h' q = h q) : elAt h' e pb s E := by
  obtain ⟨pv, em, v, cb, RR, OO, h1, h2, h3, h4, h5, h6, h7, h8, h9, h10⟩ := he
  exact ⟨pv, em, v, cb, RR, OO, (hf _ (by omega) (by omega)).trans h1, (hf _ (by omega) (by omega)).trans h2, (hf _ (by omega) (by omega)).trans h3, (hf _ (by omega) (by omega)).trans h4, (hf _ (by omega) (by omega)).trans h5, (hf _ (by omega) (by omega)).trans h6, (hf _ (by omega) (by omega)).trans h7, fun r hr => (hf _ (by omega) (by omega)).trans (h8 r hr), fun r hr => (hf _ (by omega) (by omega)).trans (h9 r hr), h10⟩
/-- the functions behind the polynomials -/
theorem baAt.polys {h : zHp} {b c : Nat} {cm pi : Nat → Nat} {ce : Nat → Nat → Int} (h7 : ∀ a, a < c → ∃ (t : Nat) (mo fa : Nat → Int), poAt h (b + 3 * pi a + 3) (cm a) t mo fa ∧ zRep t mo fa (ce a)) :
    ∃ (t : Nat → Nat) (mo fa : Nat → Nat → Int), ∀ a, a < c → poAt h (b + 3 * pi a + 3) (cm a) (t a) (mo a) (fa a) ∧ zRep (t a) (mo a) (fa a) (ce a) := by
  have ch : ∀ a, ∃ (t : Nat) (mo fa : Nat → Int), a < c → poAt h (b + 3 * pi a + 3) (cm a) t mo fa ∧ zRep t mo fa (ce a) := fun a => by
    by_cases ha : a < c
    · obtain ⟨t, mo, fa, q⟩ := h7 a ha; exact ⟨t, mo, fa, fun _ => q⟩
    · exact ⟨0, fun _ => 0, fun _ => 0, fun q => absurd q ha⟩
  exact ⟨fun a => (ch a).choose, fun a => (ch a).choose_spec.choose, fun a => (ch a).choose_spec.choose_spec.choose, fun a ha => (ch a).choose_spec.choose_spec.choose_spec ha⟩
/-- a permutation of the four places reaches each -/
theorem zperm4 {pi : Nat → Nat} (h : (∀ i, i < 4 → pi i < 4) ∧ ∀ i j, i < j → j < 4 → pi i ≠ pi j) : ∀ x, x < 4 → ∃ i, i < 4 ∧ pi i = x := by
  intro x hx
  have a0 := h.1 0 (by omega)
  have a1 := h.1 1 (by omega)
  have a2 := h.1 2 (by omega)
  have a3 := h.1 3 (by omega)
  have b1 := h.2 0 1 (by omega) (by omega)
  have b2 := h.2 0 2 (by omega) (by omega)
  have b3 := h.2 0 3 (by omega) (by omega)
  have b4 := h.2 1 2 (by omega) (by omega)
  have b5 := h.2 1 3 (by omega) (by omega)
  have b6 := h.2 2 3 (by omega) (by omega)
  by_cases c0 : pi 0 = x
  · exact ⟨0, by omega, c0⟩
  · by_cases c1 : pi 1 = x
    · exact ⟨1, by omega, c1⟩
    · by_cases c2 : pi 2 = x
      · exact ⟨2, by omega, c2⟩
      · exact ⟨3, by omega, by omega⟩
/-- an insertion into a sorted list of corners -/
theorem zSrt.ins {S : gS} {cm cm' : Nat → Nat} {ce ce' : Nat → Nat → Int} {m q : Nat} {C : Nat → Int} {E : eT} (h : zSrt S cm ce) (hq : q ≤ S.2.1) (h1 : ∀ a, a < q → cm a < m) (h2 : ∀ a, q ≤ a → a < S.2.1 → m < cm a)
    (e1 : ∀ j, j < S.2.1 + 1 → cm' j = (if j < q then cm j else if j = q then m else cm (j - 1))) (e2 : ∀ j, j < S.2.1 + 1 → ce' j = (if j < q then ce j else if j = q then C else ce (j - 1))) :
    zSrt (E, S.2.1 + 1, zfu S.2.2.1 S.2.1 m, zfu S.2.2.2 S.2.1 C) cm' ce' := by
  have lift : ∀ b, b < S.2.1 → zfu S.2.2.1 S.2.1 m b = S.2.2.1 b ∧ zfu S.2.2.2 S.2.1 C b = S.2.2.2 b := fun b hb => ⟨zfu_ne (by omega), zfu_ne (by omega)⟩
  refine ⟨fun a ha => ?_, fun b hb => ?_, fun a d had hd => ?_⟩
  · have ha' : a < S.2.1 + 1 := ha
    show ∃ b, b < S.2.1 + 1 ∧ cm' a = zfu S.2.2.1 S.2.1 m b ∧ ce' a = zfu S.2.2.2 S.2.1 C b
    rw [e1 a ha', e2 a ha']
    by_cases c1 : a < q
    · rw [if_pos c1, if_pos c1]
      obtain ⟨b, hb, x, y⟩ := h.1 a (by omega)
      exact ⟨b, by omega, by rw [(lift b hb).1]; exact x, by rw [(lift b hb).2]; exact y⟩
    · rw [if_neg c1, if_neg c1]
      by_cases c2 : a = q
      · rw [if_pos c2, if_pos c2]
        exact ⟨S.2.1, by omega, zfu_self.symm, zfu_self.symm⟩
      · rw [if_neg c2, if_neg c2]
        obtain ⟨b, hb, x, y⟩ := h.1 (a - 1) (by omega)
        exact ⟨b, by omega, by rw [(lift b hb).1]; exact x, by rw [(lift b hb).2]; exact y⟩
  · have hb' : b < S.2.1 + 1 := hb
    show ∃ a, a < S.2.1 + 1 ∧ cm' a = zfu S.2.2.1 S.2.1 m b
    by_cases c1 : b = S.2.1
    · exact ⟨q, by omega, by rw [e1 q (by omega), if_neg (by omega), if_pos rfl, c1, zfu_self]⟩
    · obtain ⟨a, ha, x⟩ := h.2.1 b (by omega)
      rw [(lift b (by omega)).1]
      by_cases c2 : a < q
      · exact ⟨a, by omega, by rw [e1 a (by omega), if_pos c2, x]⟩
      · exact ⟨a + 1, by omega, by rw [e1 (a + 1) (by omega), if_neg (by omega), if_neg (by omega)]; simpa using x⟩
  · have hd' : d < S.2.1 + 1 := hd
    show cm' a < cm' d
    rw [e1 a (by omega), e1 d hd']
    by_cases c1 : d < q
    · rw [if_pos c1, if_pos (show a < q by omega)]; exact h.2.2 a d had (by omega)
    · rw [if_neg c1]
      by_cases c2 : d = q
      · rw [if_pos c2, if_pos (show a < q by omega)]; exact h1 a (by omega)
      · rw [if_neg c2]
        by_cases c3 : a < q
        · rw [if_pos c3]; exact h.2.2 a (d - 1) (by omega) (by omega)
        · rw [if_neg c3]
          by_cases c4 : a = q
          · rw [if_pos c4]; exact h2 (d - 1) (by omega) (by omega)
          · rw [if_neg c4]; exact h.2.2 (a - 1) (d - 1) (by omega) (by omega)
theorem zrc_off {p : Int} {R O : Nat → Nat → Int} {piv : Nat → Nat} {v : Nat → Int} {t : Nat} : ∀ z, (∀ r, r < z → O r t = 0) → zrc p R O piv v z t = 0
  | 0, _ => rfl
  | z + 1, h => by
    unfold zrc
    rw [zrc_off z (fun r hr => h r (by omega)), h z (by omega)]
    simp
/-- elimination's picture after a new row -/
theorem elAt.keep {h h' : zHp} {e pb s m q : Nat} {E : eT} {p : Int} {X Y : Nat → Int} {pv em v' cb' R' O' : Nat → Int} {RR OO : Nat → Nat → Int} (hs : s ≤ 8) (hz : E.1 < 8) (hI : EInv p s X Y E)
    (h2 : h (e + 1) = some (.inr (.inr (99, 8, fun i => if i < 8 then some (e + 1 + 1 + i) else none)))) (h3 : h (e + 10) = some (.inr (.inr (99, 8, fun i => if i < 8 then some (e + 10 + 1 + i) else none))))
    (hRR : ∀ r, r < 8 → zar h (e + r + 2) 8 (RR r)) (hOO : ∀ r, r < 8 → zar h (e + r + 11) 8 (OO r)) (hag : ∀ r, r < E.1 → pv r = (eP E r : Int) ∧ em r = (eM E r : Int) ∧ ∀ k, k < s → RR r k = eR E r k ∧ OO r k = eO E r k)
    (k0 : q < s ∧ erd p E (zvec p X Y m) q ≠ 0 ∧ ∀ i, i < q → erd p E (zvec p X Y m) i = 0) (k1 : ∀ k, k < s → R' k = zinv p (erd p E (zvec p X Y m) q) * erd p E (zvec p X Y m) k % p)
    (k2 : ∀ k, k < s → k ≠ E.1 → O' k = (p - zinv p (erd p E (zvec p X Y m) q)) * ecb p E (zvec p X Y m) k % p) (k3 : O' E.1 = zinv p (erd p E (zvec p X Y m) q))
    (f1 : h' e = some (.inl (2, [.inr (some pb), .inr (some (e + 1)), .inr (some (e + 10)), .inr (some (e + 19)), .inl ((E.1 : Int) + 1), .inr (some (e + 20)), .inr (some (e + 21)), .inr (some (e + 22))])))
    (f2 : zar h' (e + 19) 8 (zfu pv E.1 (q : Int))) (f3 : zar h' (e + 20) 8 (zfu em E.1 (m : Int))) (f4 : zar h' (e + E.1 + 2) 8 R') (f5 : zar h' (e + E.1 + 11) 8 O') (f6 : zar h' (e + 21) 8 v') (f7 : zar h' (e + 22) 8 cb')
    (fr : ∀ a : Nat, a ≠ e → a ≠ e + 19 → a ≠ e + 20 → a ≠ e + E.1 + 2 → a ≠ e + E.1 + 11 → a ≠ e + 21 → a ≠ e + 22 → h' a = h a) : elAt h' e pb s (eadd p s X Y E m) := by
  have hq : zfst (erd p E (zvec p X Y m)) s = q := zfst_eq k0.1 k0.2.1 k0.2.2
  refine ⟨_, _, v', cb', fun r => if r = E.1 then R' else RR r, fun r => if r = E.1 then O' else OO r, f1, (fr _ (by omega) (by omega) (by omega) (by omega) (by omega) (by omega) (by omega)).trans h2, (fr _ (by omega) (by omega) (by omega) (by omega) (by omega) (by omega) (by omega)).trans h3, f2, f3, f6, f7, fun r hr => ?_, fun r hr => ?_, fun r hr => ?_⟩
  · by_cases c : r = E.1
    · subst c; simp only [if_true]; exact f4
    · simp only [if_neg c]; exact (fr _ (by omega) (by omega) (by omega) (by omega) (by omega) (by omega) (by omega)).trans (hRR r hr)
  · by_cases c : r = E.1
    · subst c; simp only [if_true]; exact f5
    · simp only [if_neg c]; exact (fr _ (by omega) (by omega) (by omega) (by omega) (by omega) (by omega) (by omega)).trans (hOO r hr)
  · have hr' : r < E.1 + 1 := hr
    show zfu pv E.1 (q : Int) r = ((zfu (eP E) E.1 (zfst (erd p E (zvec p X Y m)) s) r : Nat) : Int) ∧ zfu em E.1 (m : Int) r = ((zfu (eM E) E.1 m r : Nat) : Int) ∧ ∀ k, k < s → (if r = E.1 then R' else RR r) k = (if r = E.1 then (fun k => zinv p (erd p E (zvec p X Y m) (zfst (erd p E (zvec p X Y m)) s)) * erd p E (zvec p X Y m) k % p) else eR E r) k ∧ (if r = E.1 then O' else OO r) k = (if r = E.1 then (fun t => if t < E.1 then (p - zinv p (erd p E (zvec p X Y m) (zfst (erd p E (zvec p X Y m)) s))) * ecb p E (zvec p X Y m) t % p else if t = E.1 then zinv p (erd p E (zvec p X Y m) (zfst (erd p E (zvec p X Y m)) s)) else 0) else eO E r) k
    rw [hq]
    by_cases c : r = E.1
    · subst c
      simp only [zfu_self, if_true]
      refine ⟨trivial, trivial, fun k hk => ⟨k1 k hk, ?_⟩⟩
      by_cases c1 : k < E.1
      · rw [if_pos c1]; exact k2 k hk (by omega)
      · rw [if_neg c1]
        by_cases c2 : k = E.1
        · rw [if_pos c2, c2]; exact k3
        · rw [if_neg c2, k2 k hk c2, show ecb p E (zvec p X Y m) k = 0 from zrc_off E.1 (fun r hr => hI.2.2.2.2.2.1 r hr k (by omega))]
          simp
    · obtain ⟨a1, a2, a3⟩ := hag r (by omega)
      rw [zfu_ne c, zfu_ne c, zfu_ne c, zfu_ne c, if_neg c, if_neg c, if_neg c, if_neg c]
      exact ⟨a1, a2, a3⟩
/-- the reductions of the arrays are those of the state -/
theorem elAt.red {s m : Nat} {E : eT} {p : Int} {X Y xs ys : Nat → Int} {RR OO : Nat → Nat → Int} (hX : ∀ k, k < s → xs k = X k ∧ ys k = Y k) (hP : ∀ r, r < E.1 → eP E r < s) (hag : ∀ r, r < E.1 → ∀ k, k < s → RR r k = eR E r k ∧ OO r k = eO E r k) :
    ∀ k, k < s → zrv p RR (eP E) (fun k => zmon p (xs k) (ys k) m) E.1 k = erd p E (zvec p X Y m) k ∧ zrc p RR OO (eP E) (fun k => zmon p (xs k) (ys k) m) E.1 k = ecb p E (zvec p X Y m) k := fun k hk => by
  have hv : ∀ k, k < s → (fun k => zmon p (xs k) (ys k) m) k = zvec p X Y m k := fun k hk => by
    show zmon p (xs k) (ys k) m = zmon p (X k) (Y k) m
    rw [(hX k hk).1, (hX k hk).2]
  exact ⟨zrv_ext hv E.1 (fun r hr => ⟨rfl, hP r hr⟩) (fun r hr k hk => (hag r hr k hk).1) k hk, zrc_ext hv E.1 (fun r hr => ⟨rfl, hP r hr⟩) (fun r hr k hk => (hag r hr k hk).1) (fun r hr k hk => (hag r hr k hk).2) k hk⟩
/-- a basis's picture after a corner more -/
theorem baAt.ins {h h' : zHp} {b c m q t' : Nat} {H cm pi : Nat → Nat} {ce : Nat → Nat → Int} {C hf mo' fa' : Nat → Int} {rf rf' : Nat → Option Nat} {wt wb : Int} (hc : c < 4)
    (h2 : zar h (b + 1) 9 hf) (h4 : ∀ i, i < 9 → hf i = (H i : Int)) (h5 : ∀ i, i < 4 → rf i = some (b + 3 * pi i + 3)) (h6 : (∀ i, i < 4 → pi i < 4) ∧ ∀ i j, i < j → j < 4 → pi i ≠ pi j)
    (h7 : ∀ a, a < c → ∃ (t : Nat) (mo fa : Nat → Int), poAt h (b + 3 * pi a + 3) (cm a) t mo fa ∧ zRep t mo fa (ce a)) (h8 : ∀ i, i < 4 → rawPo h (b + 3 * i + 3)) (hq : q ≤ c)
    (k1 : ∀ j, j < 4 → rf' j = (if j < q then rf j else if j = q then rf c else if j ≤ c then rf (j - 1) else rf j)) (k2 : t' ≤ 9) (k3 : zRep t' mo' fa' C)
    (f1 : h' b = some (.inl (8, [.inr (some (b + 1)), .inl ((c : Int) + 1), .inr (some (b + 2)), .inl wt, .inl wb]))) (f2 : h' (b + 2) = some (.inr (.inr (1, 4, rf'))))
    (f3 : h' (b + 3 * pi c + 3) = some (.inl (1, [.inl (m : Int), .inl (t' : Int), .inr (some (b + 3 * pi c + 4)), .inr (some (b + 3 * pi c + 5))]))) (f4 : zar h' (b + 3 * pi c + 4) 9 mo') (f5 : zar h' (b + 3 * pi c + 5) 9 fa')
    (fr : ∀ a : Nat, a ≠ b → a ≠ b + 2 → a ≠ b + 3 * pi c + 3 → a ≠ b + 3 * pi c + 4 → a ≠ b + 3 * pi c + 5 → h' a = h a) :
    baAt h' b H (c + 1) (fun j => if j < q then cm j else if j = q then m else cm (j - 1)) (fun j => if j < q then ce j else if j = q then C else ce (j - 1)) wt wb := by
  have hpc := h6.1 c hc
  have hpo : poAt h' (b + 3 * pi c + 3) m t' mo' fa' := ⟨f3, f4, f5, k2⟩
  have oth : ∀ i, i < 4 → i ≠ pi c → ∀ x, b + 3 * i + 3 ≤ x → x < b + 3 * i + 3 + 3 → h' x = h x := fun i hi hne x x1 x2 => fr x (by omega) (by omega) (by omega) (by omega) (by omega)
  have ne : ∀ a, a < 4 → a ≠ c → pi a ≠ pi c := fun a ha hac => by
    by_cases x : a < c
    · exact h6.2 a c x hc
    · exact (h6.2 c a (by omega) ha).symm
  refine ⟨hf, rf', fun j => if j < q then pi j else if j = q then pi c else if j ≤ c then pi (j - 1) else pi j, f1, (fr _ (by omega) (by omega) (by omega) (by omega) (by omega)).trans h2, f2, h4, fun i hi => ?_, ⟨fun i hi => ?_, fun i j hij hj => ?_⟩, fun a ha => ?_, fun i hi => ?_⟩
  · rw [k1 i hi]
    show _ = some (b + 3 * (if i < q then pi i else if i = q then pi c else if i ≤ c then pi (i - 1) else pi i) + 3)
    split
    · exact h5 i hi
    · split
      · exact h5 c hc
      · split
        · exact h5 _ (by omega)
        · exact h5 i hi
  · show (if i < q then pi i else if i = q then pi c else if i ≤ c then pi (i - 1) else pi i) < 4
    split
    · exact h6.1 i hi
    · split
      · exact hpc
      · split
        · exact h6.1 _ (by omega)
        · exact h6.1 i hi
  · show (if i < q then pi i else if i = q then pi c else if i ≤ c then pi (i - 1) else pi i) ≠ (if j < q then pi j else if j = q then pi c else if j ≤ c then pi (j - 1) else pi j)
    have inj : ∀ x y, x < 4 → y < 4 → x ≠ y → pi x ≠ pi y := fun x y hx hy hne => by
      by_cases z : x < y
      · exact h6.2 x y z hy
      · exact (h6.2 y x (by omega) hx).symm
    split
    · split
      · exact inj i j (by omega) hj (by omega)
      · split
        · exact inj i c (by omega) hc (by omega)
        · split
          · exact inj i (j - 1) (by omega) (by omega) (by omega)
          · exact inj i j (by omega) hj (by omega)
    · split
      · rw [if_neg (by omega), if_neg (by omega)]
        split
        · exact inj c (j - 1) hc (by omega) (by omega)
        · exact inj c j hc hj (by omega)
      · split
        · rw [if_neg (by omega), if_neg (by omega)]
          split
          · exact inj (i - 1) (j - 1) (by omega) (by omega) (by omega)
          · exact inj (i - 1) j (by omega) hj (by omega)
        · rw [if_neg (by omega), if_neg (by omega), if_neg (by omega)]
          exact inj i j (by omega) hj (by omega)
  · show ∃ t mo fa, poAt h' (b + 3 * (if a < q then pi a else if a = q then pi c else if a ≤ c then pi (a - 1) else pi a) + 3) (if a < q then cm a else if a = q then m else cm (a - 1)) t mo fa ∧ zRep t mo fa (if a < q then ce a else if a = q then C else ce (a - 1))
    by_cases c1 : a < q
    · rw [if_pos c1, if_pos c1, if_pos c1]
      obtain ⟨t, mo, fa, x, y⟩ := h7 a (by omega)
      exact ⟨t, mo, fa, x.frame (oth _ (h6.1 a (by omega)) (ne a (by omega) (by omega))), y⟩
    · rw [if_neg c1, if_neg c1, if_neg c1]
      by_cases c2 : a = q
      · rw [if_pos c2, if_pos c2, if_pos c2]
        exact ⟨t', mo', fa', hpo, k3⟩
      · rw [if_neg c2, if_neg c2, if_neg c2, if_pos (by omega)]
        obtain ⟨t, mo, fa, x, y⟩ := h7 (a - 1) (by omega)
        exact ⟨t, mo, fa, x.frame (oth _ (h6.1 _ (by omega)) (ne _ (by omega) (by omega))), y⟩
  · by_cases c1 : i = pi c
    · rw [c1]; exact hpo.raw
    · exact (h8 i hi).frame (oth i hi c1)
theorem zPair_succ {j t : Nat} {cm : Nat → Nat} {ce : Nat → Nat → Int} {mo fa : Nat → Int} (h : zRep t mo fa (ce j)) (x y : Int) : (zPair j cm ce x y ∨ zprT (cm j) mo t x y) ↔ zPair (j + 1) cm ce x y := by
  rw [zprT_cells h]
  constructor
  · rintro (⟨a, ha, q⟩ | q)
    · exact ⟨a, by omega, q⟩
    · exact ⟨j, by omega, q⟩
  · rintro ⟨a, ha, q⟩
    by_cases e : a = j
    · subst e; exact Or.inr q
    · exact Or.inl ⟨a, by omega, q⟩
theorem zcmod {x d : Nat} : ((x : Int) % (d : Int) = 0) ↔ x % d = 0 := by
  rw [← Int.natCast_emod]; omega
theorem zlow_go {d x y : Nat} (hd : 2 ≤ d) (h : x % d = 0 ∧ y % d = 0) : zlow d (x, y) = zlow (d - 1) (x / d, y / d) := by
  obtain ⟨e, rfl⟩ : ∃ e, d = e + 1 := ⟨d - 1, by omega⟩
  rw [zlow, if_neg (by omega), if_pos h]; rfl
theorem zlow_st {d x y : Nat} (hd : 2 ≤ d) (h : ¬ (x % d = 0 ∧ y % d = 0)) : zlow d (x, y) = zlow (d - 1) (x, y) := by
  obtain ⟨e, rfl⟩ : ∃ e, d = e + 1 := ⟨d - 1, by omega⟩
  rw [zlow, if_neg (by omega), if_neg h]; rfl
