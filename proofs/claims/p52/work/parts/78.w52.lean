/-! ===== p52: rows that wrap around; the state of a run; the class's calls over it: printed by wip/p52/gen/w52.py ===== -/
section ZTW
variable {n0 : Nat} {g : Nat → zV} {M M' : zM} {pc : Nat} {L : List (Option zV)} {st : List zV} {n k : Nat} {h : zHp} {Q : Option zV → Nat → Nat → zHp → Prop}
theorem T_iaddW {x y : Int} (hd : decode M.1 pc = .ok (.iadd, 1)) (kk : ∀ z, zR z → ZT n0 g M (pc + 1) L (.inl z :: st) n k h Q) : ZT n0 g M pc L (.inl y :: .inl x :: st) n k h Q := by
  by_cases hr : zR (x + y)
  · exact T_iadd hd hr (kk _ hr)
  · exact ZT.step hd (by simp only [zstep, zA, if_neg hr]) (kk (zbit (fun a b => a + b) x y) (zR_of _))
theorem T_imulW {x y : Int} (hd : decode M.1 pc = .ok (.imul, 1)) (kk : ∀ z, zR z → ZT n0 g M (pc + 1) L (.inl z :: st) n k h Q) : ZT n0 g M pc L (.inl y :: .inl x :: st) n k h Q := by
  by_cases hr : zR (x * y)
  · exact T_imul hd hr (kk _ hr)
  · exact ZT.step hd (by simp only [zstep, zA, if_neg hr]) (kk (zbit (fun a b => a * b) x y) (zR_of _))
theorem T_ixorW {x y : Int} (hd : decode M.1 pc = .ok (.ixor, 1)) (kk : ∀ z, zR z → ZT n0 g M (pc + 1) L (.inl z :: st) n k h Q) : ZT n0 g M pc L (.inl y :: .inl x :: st) n k h Q := T_ixor hd (kk _ (zR_of _))
theorem T_iushrW {x y : Int} (hd : decode M.1 pc = .ok (.iushr, 1)) (kk : ∀ z, zR z → ZT n0 g M (pc + 1) L (.inl z :: st) n k h Q) : ZT n0 g M pc L (.inl y :: .inl x :: st) n k h Q := ZT.step hd (by simp [zstep, zA]) (kk (zbit zush x y) (zR_of _))
theorem zush8 (x : Int) : ∃ z : Nat, zbit zush x 8 = (z : Int) ∧ z < 16777216 := by
  unfold zbit zush
  have e8 : (Int32.ofInt 8).toUInt32 &&& Int32.toUInt32 31 = 8 := by decide
  rw [e8]
  generalize (Int32.ofInt x).toUInt32 = u
  have hlt : (u >>> 8).toNat < 16777216 := by
    rw [UInt32.toNat_shiftRight, Nat.shiftRight_eq_div_pow]
    have h1 := u.toNat_lt
    have h2 : 2 ^ ((8 : UInt32).toNat % 32) = 256 := by decide
    rw [h2]
    omega
  refine ⟨(u >>> 8).toNat, ?_, hlt⟩
  generalize u >>> 8 = w at hlt ⊢
  show w.toBitVec.toInt = (w.toBitVec.toNat : Int)
  have h3 : w.toBitVec.toNat < 16777216 := hlt
  exact BitVec.toInt_eq_toNat_of_lt (by omega)
theorem T_iushr8 {x : Int} (hd : decode M.1 pc = .ok (.iushr, 1)) (kk : ∀ z : Nat, z < 16777216 → ZT n0 g M (pc + 1) L (.inl (z : Int) :: st) n k h Q) : ZT n0 g M pc L (.inl 8 :: .inl x :: st) n k h Q := by
  obtain ⟨z, e, hz⟩ := zush8 x
  have h9 : ZT n0 g M (pc + 1) L (.inl (zbit zush x 8) :: st) n k h Q := by rw [e]; exact kk z hz
  exact ZT.step hd (by simp [zstep, zA]) h9
end ZTW
def pZero : pT := (7, 0, fun _ => 0, fun _ => 0, fun _ => 0)
def lZero : lT := (fun _ => 0, fun _ => 0, fun _ _ => 0, fun _ _ => 0)
def oNil : tT := (0, fun _ => 0)
theorem wf_zero : pwf pZero := ⟨by unfold zprime pZero; decide, by decide, fun k hk => absurd hk (Nat.not_lt_zero k), fun i j _ hj => absurd hj (Nat.not_lt_zero j), fun m _ => ⟨Int.le_refl _, by show (0 : Int) < 7; decide⟩⟩
theorem lwf_zero : lwf lZero := fun k _ => ⟨Nat.zero_le _, fun h => absurd (show (0 : Nat) = 1 from h) (by decide), fun h => absurd (show (0 : Nat) = 2 from h) (by decide)⟩
theorem iwf_nil : iwf oNil := ⟨by decide, fun i hi => absurd hi (Nat.not_lt_zero i)⟩
theorem owf_nil : owf oNil := ⟨by decide, fun i hi => absurd hi (Nat.not_lt_zero i)⟩
theorem vwf_zero : vwf (0, pZero) := ⟨Or.inl rfl, fun h => absurd h (by decide)⟩
theorem prOk.frame {g : Nat → zV} {h h' : zHp} {B : Nat} (d : prOk g h B) (f : ∀ q, q < B → h' q = h q) : prOk g h' B := by
  obtain ⟨pa, pf, a1, a2, a3, a4⟩ := d
  exact ⟨pa, pf, a1, a2, (f _ a2).trans a3, a4⟩
/-- the object at B over these points, its current polynomial C; the script at sA -/
def wAt (g : Nat → zV) (h : zHp) (B n : Nat) (P : pT) (C : Nat → Int) (sA len : Nat) (f : Nat → Int) : Prop :=
  (∃ (nb : Nat) (cb : Nat → Nat), clAt h B (B + 396) n (pC P C) lZero oNil oNil (0, pZero) nb cb (B + 386) 16) ∧ pwf (pC P C) ∧ prOk g h B ∧ sA < B ∧ h sA = some (.inr (.inl (0, len, f)))
theorem wAt.ob {g : Nat → zV} {h : zHp} {B n sA len : Nat} {P : pT} {C f : Nat → Int} (w : wAt g h B n P C sA len f) : h B = some (.inl (10, [.inr (some (B + 1)), .inr (some (B + 4)), .inr (some (B + 6)), .inr (some (B + 9)), .inl 0, .inr (some (B + 11)), .inr (some (B + 34)), .inr (some (B + 35)), .inr (some (B + 50)), .inr (some (B + 382)), .inr (some (B + 385)), .inr (some (B + 387))])) := w.1.choose_spec.choose_spec.1
theorem wAt.sc {g : Nat → zV} {h : zHp} {B n sA len : Nat} {P : pT} {C f : Nat → Int} (w : wAt g h B n P C sA len f) : h sA = some (.inr (.inl (0, len, f))) := w.2.2.2.2
theorem s_bs_eq {P : pT} {c : Nat} (hc : c < pN P) : s_bs P (c : Int) = ((pB P c).2.1 : Int) := by
  unfold s_bs; rw [if_pos (by omega), Int.toNat_natCast]
theorem s_bc_eq {P : pT} {c q : Nat} (hc : c < pN P) (hq : q < (pB P c).2.1) : s_bc P (c : Int) (q : Int) = zdec ((pB P c).2.2.1 q) := by
  unfold s_bc; rw [if_pos (by rw [sBas, Int.toNat_natCast]; omega), Int.toNat_natCast, Int.toNat_natCast]
theorem s_bf_eq {P : pT} {c q a b : Nat} (hc : c < pN P) (hq : q < (pB P c).2.1) (ha : a < 9) (hb : b < 9) : s_bf P (c : Int) (q : Int) (a : Int) (b : Int) = (pB P c).2.2.2 q (9 * a + b) := by
  unfold s_bf; rw [if_pos ⟨by rw [sBas, Int.toNat_natCast]; omega, by omega, by omega⟩, Int.toNat_natCast, Int.toNat_natCast, Int.toNat_natCast, Int.toNat_natCast]
theorem s_ht_eq {P : pT} {c i : Nat} (hc : c < pN P) (hi : i < 9) : s_ht P (c : Int) (i : Int) = ((pB P c).1 i : Int) := by
  unfold s_ht; rw [if_pos (by omega), Int.toNat_natCast, Int.toNat_natCast]
theorem s_w_eq {P : pT} (hP : pwf P) {f : Nat × Nat → Nat} {c : Nat} (hc : c + 1 < pN P) : s_w P f (c : Int) = (f (pW P c) : Int) := by
  have := (pW_pos hP hc).1
  unfold s_w; rw [if_pos (by omega), Int.toNat_natCast, if_neg (by omega)]
theorem s_co_eq {P : pT} {u v t : Int} {i : Nat} (ho : sOrd u v t) (hi : i < (pZ P u v t).2.1) : s_co P u v t (i : Int) = zdec ((pZ P u v t).2.2.1 i) := by
  unfold s_co; rw [if_pos ho, if_pos (by omega), Int.toNat_natCast]
theorem s_ch_eq {P : pT} {u v t : Int} {i : Nat} (ho : sOrd u v t) (hi : i < 9) : s_ch P u v t (i : Int) = ((pZ P u v t).1 i : Int) := by
  unfold s_ch; rw [if_pos (by omega), if_pos ho, Int.toNat_natCast]
theorem s_lb_eq {P : pT} {c q : Nat} (hc : c < pN P) (hq : q < (pB P c).2.1) : s_lb P (c : Int) (q : Int) = ((znz ((pB P c).2.2.2 q) 81 : Int), pC P ((pB P c).2.2.2 q)) := by
  unfold s_lb; rw [if_pos (by rw [sBas, Int.toNat_natCast]; omega), Int.toNat_natCast, Int.toNat_natCast]
set_option maxHeartbeats 4000000 in
set_option maxRecDepth 100000 in
theorem w_X9_prime {n0 n k : Nat} {g : Nat → zV} {h : zHp} {Q : Option zV → Nat → Nat → zHp → Prop} {B sA len : Nat} {P : pT} {C f : Nat → Int} (hP : pwf P) (hB : n0 ≤ B) (hW : wAt g h B n P C sA len f) (hQ : ∀ (k' : Nat) (h' : zHp), (k' ≤ k) → (wAt g h' B n P C sA len f) → Q (some (.inl P.1)) n k' h') : ZT n0 g mX9_prime 0 (zloc mX9_prime [.inr (some B)]) [] n k h Q := by
  obtain ⟨⟨nb, cb, hcl⟩, hw, hpr, hs⟩ := id hW
  refine m_X9_prime  hw lwf_zero iwf_nil owf_nil vwf_zero hB hcl ?_
  exact hQ k h (Nat.le_refl _) hW
set_option maxHeartbeats 4000000 in
set_option maxRecDepth 100000 in
theorem w_X9_pointCount {n0 n k : Nat} {g : Nat → zV} {h : zHp} {Q : Option zV → Nat → Nat → zHp → Prop} {B sA len : Nat} {P : pT} {C f : Nat → Int} (hP : pwf P) (hB : n0 ≤ B) (hW : wAt g h B n P C sA len f) (hQ : ∀ (k' : Nat) (h' : zHp), (k' ≤ k) → (wAt g h' B n P C sA len f) → Q (some (.inl (P.2.1 : Int))) n k' h') : ZT n0 g mX9_pointCount 0 (zloc mX9_pointCount [.inr (some B)]) [] n k h Q := by
  obtain ⟨⟨nb, cb, hcl⟩, hw, hpr, hs⟩ := id hW
  refine m_X9_pointCount  hw lwf_zero iwf_nil owf_nil vwf_zero hB hcl ?_
  exact hQ k h (Nat.le_refl _) hW
set_option maxHeartbeats 4000000 in
set_option maxRecDepth 100000 in
theorem w_X9_isVanishing {n0 n k : Nat} {g : Nat → zV} {h : zHp} {Q : Option zV → Nat → Nat → zHp → Prop} {B sA len : Nat} {P : pT} {C f : Nat → Int} (hP : pwf P) (hB : n0 ≤ B) (hW : wAt g h B n P C sA len f) (hQ : ∀ (k' : Nat) (h' : zHp), (k' ≤ k) → (wAt g h' B n P C sA len f) → Q (some (.inl (s_van (pC P C)))) n k' h') : ZT n0 g mX9_isVanishing 0 (zloc mX9_isVanishing [.inr (some B)]) [] n k h Q := by
  obtain ⟨⟨nb, cb, hcl⟩, hw, hpr, hs⟩ := id hW
  refine m_X9_isVanishing  hw lwf_zero iwf_nil owf_nil vwf_zero hB hcl ?_
  exact hQ k h (Nat.le_refl _) hW
set_option maxHeartbeats 4000000 in
set_option maxRecDepth 100000 in
theorem w_X9_termCount {n0 n k : Nat} {g : Nat → zV} {h : zHp} {Q : Option zV → Nat → Nat → zHp → Prop} {B sA len : Nat} {P : pT} {C f : Nat → Int} (hP : pwf P) (hB : n0 ≤ B) (hW : wAt g h B n P C sA len f) (hQ : ∀ (k' : Nat) (h' : zHp), (k' ≤ k) → (wAt g h' B n P C sA len f) → Q (some (.inl ((znz C 81) : Int))) n k' h') : ZT n0 g mX9_termCount 0 (zloc mX9_termCount [.inr (some B)]) [] n k h Q := by
  obtain ⟨⟨nb, cb, hcl⟩, hw, hpr, hs⟩ := id hW
  refine m_X9_termCount  hw lwf_zero iwf_nil owf_nil vwf_zero hB hcl ?_
  exact hQ k h (Nat.le_refl _) hW
set_option maxHeartbeats 4000000 in
set_option maxRecDepth 100000 in
theorem w_X9_coneCount {n0 n k : Nat} {g : Nat → zV} {h : zHp} {Q : Option zV → Nat → Nat → zHp → Prop} {B sA len : Nat} {P : pT} {C f : Nat → Int} (hP : pwf P) (hB : n0 ≤ B) (hW : wAt g h B n P C sA len f) (hQ : ∀ (k' : Nat) (h' : zHp), (k' ≤ k) → (wAt g h' B n P C sA len f) → Q (some (.inl ((pN P) : Int))) n k' h') : ZT n0 g mX9_coneCount 0 (zloc mX9_coneCount [.inr (some B)]) [] n k h Q := by
  obtain ⟨⟨nb, cb, hcl⟩, hw, hpr, hs⟩ := id hW
  refine m_X9_coneCount  hw lwf_zero iwf_nil owf_nil vwf_zero hB hcl (fun nb1 cb1 n1 k1 h1 q1 q2 q3 q4 pc pf => ?_)
  have e1 := hcl.2.2.2.2.2.2.1.co.1
  have e2 := pc.2.2.2.2.2.2.1.co.1
  obtain rfl : n1 = n := by omega
  exact hQ k1 h1 (by omega) ⟨⟨nb1, cb1, pc⟩, hw, (hpr.frame (fun q hq => pf q (Or.inl hq))), ⟨hs.1, (pf _ (Or.inl hs.1)).trans hs.2⟩⟩
set_option maxHeartbeats 4000000 in
set_option maxRecDepth 100000 in
theorem w_X9_basisSize {n0 n k : Nat} {g : Nat → zV} {h : zHp} {Q : Option zV → Nat → Nat → zHp → Prop} {B sA len : Nat} {P : pT} {C f : Nat → Int} {c : Nat} (hP : pwf P) (hB : n0 ≤ B) (hW : wAt g h B n P C sA len f) (hc : c < pN P) (hQ : ∀ (k' : Nat) (h' : zHp), (k' ≤ k) → ((pB P c).2.1 ≤ 4 ∧ 1 ≤ (pB P c).2.1 ∧ (pB P c).2.1 ≤ zuc (pB P) (pN P)) → (wAt g h' B n P C sA len f) → Q (some (.inl (((pB P c).2.1) : Int))) n k' h') : ZT n0 g mX9_basisSize 0 (zloc mX9_basisSize [.inr (some B), .inl (c : Int)]) [] n k h Q := by
  obtain ⟨⟨nb, cb, hcl⟩, hw, hpr, hs⟩ := id hW
  refine m_X9_basisSize  hw lwf_zero iwf_nil owf_nil vwf_zero hB hcl (fun nb1 cb1 n1 k1 h1 q1 q2 q3 q4 pc pf => ?_)
  have e1 := hcl.2.2.2.2.2.2.1.co.1
  have e2 := pc.2.2.2.2.2.2.1.co.1
  obtain rfl : n1 = n := by omega
  have e : s_bs (pC P C) (c : Int) = ((pB P c).2.1 : Int) := s_bs_eq hc
  rw [e]
  exact hQ k1 h1 (by omega) ⟨(pB_facts hP c).1, pB_one hP c, pU_ge hP hc⟩ ⟨⟨nb1, cb1, pc⟩, hw, (hpr.frame (fun q hq => pf q (Or.inl hq))), ⟨hs.1, (pf _ (Or.inl hs.1)).trans hs.2⟩⟩
set_option maxHeartbeats 4000000 in
set_option maxRecDepth 100000 in
theorem w_X9_basisCorner {n0 n k : Nat} {g : Nat → zV} {h : zHp} {Q : Option zV → Nat → Nat → zHp → Prop} {B sA len : Nat} {P : pT} {C f : Nat → Int} {c q : Nat} (hP : pwf P) (hB : n0 ≤ B) (hW : wAt g h B n P C sA len f) (hc : c < pN P) (hq : q < (pB P c).2.1) (hQ : ∀ (k' : Nat) (h' : zHp), (k' ≤ k) → (wAt g h' B n P C sA len f) → Q (some (.inl (zdec ((pB P c).2.2.1 q)))) n k' h') : ZT n0 g mX9_basisCorner 0 (zloc mX9_basisCorner [.inr (some B), .inl (c : Int), .inl (q : Int)]) [] n k h Q := by
  obtain ⟨⟨nb, cb, hcl⟩, hw, hpr, hs⟩ := id hW
  refine m_X9_basisCorner  hw lwf_zero iwf_nil owf_nil vwf_zero hB hcl (fun nb1 cb1 n1 k1 h1 q1 q2 q3 q4 pc pf => ?_)
  have e1 := hcl.2.2.2.2.2.2.1.co.1
  have e2 := pc.2.2.2.2.2.2.1.co.1
  obtain rfl : n1 = n := by omega
  have e : s_bc (pC P C) (c : Int) (q : Int) = zdec ((pB P c).2.2.1 q) := s_bc_eq hc hq
  rw [e]
  exact hQ k1 h1 (by omega) ⟨⟨nb1, cb1, pc⟩, hw, (hpr.frame (fun q hq => pf q (Or.inl hq))), ⟨hs.1, (pf _ (Or.inl hs.1)).trans hs.2⟩⟩
set_option maxHeartbeats 4000000 in
set_option maxRecDepth 100000 in
theorem x_X9_basisCorner {n0 n k : Nat} {g : Nat → zV} {h : zHp} {Q : Option zV → Nat → Nat → zHp → Prop} {B sA len : Nat} {P : pT} {C f : Nat → Int} {i x : Int} (hP : pwf P) (hB : n0 ≤ B) (hW : wAt g h B n P C sA len f) (hQ : ∀ (k' : Nat) (h' : zHp), (k' ≤ k) → (wAt g h' B n P C sA len f) → Q (some (.inl (s_bc P i x))) n k' h') : ZT n0 g mX9_basisCorner 0 (zloc mX9_basisCorner [.inr (some B), .inl i, .inl x]) [] n k h Q := by
  obtain ⟨⟨nb, cb, hcl⟩, hw, hpr, hs⟩ := id hW
  refine m_X9_basisCorner  hw lwf_zero iwf_nil owf_nil vwf_zero hB hcl (fun nb1 cb1 n1 k1 h1 q1 q2 q3 q4 pc pf => ?_)
  have e1 := hcl.2.2.2.2.2.2.1.co.1
  have e2 := pc.2.2.2.2.2.2.1.co.1
  obtain rfl : n1 = n := by omega
  exact hQ k1 h1 (by omega) ⟨⟨nb1, cb1, pc⟩, hw, (hpr.frame (fun q hq => pf q (Or.inl hq))), ⟨hs.1, (pf _ (Or.inl hs.1)).trans hs.2⟩⟩
set_option maxHeartbeats 4000000 in
set_option maxRecDepth 100000 in
theorem w_X9_basisCoefficient {n0 n k : Nat} {g : Nat → zV} {h : zHp} {Q : Option zV → Nat → Nat → zHp → Prop} {B sA len : Nat} {P : pT} {C f : Nat → Int} {c q a b : Nat} (hP : pwf P) (hB : n0 ≤ B) (hW : wAt g h B n P C sA len f) (hc : c < pN P) (hq : q < (pB P c).2.1) (hab : a < 9 ∧ b < 9) (hQ : ∀ (k' : Nat) (h' : zHp), (k' ≤ k) → (wAt g h' B n P C sA len f) → Q (some (.inl ((pB P c).2.2.2 q (9 * a + b)))) n k' h') : ZT n0 g mX9_basisCoefficient 0 (zloc mX9_basisCoefficient [.inr (some B), .inl (c : Int), .inl (q : Int), .inl (a : Int), .inl (b : Int)]) [] n k h Q := by
  obtain ⟨⟨nb, cb, hcl⟩, hw, hpr, hs⟩ := id hW
  refine m_X9_basisCoefficient  hw lwf_zero iwf_nil owf_nil vwf_zero hB hcl (fun nb1 cb1 n1 k1 h1 q1 q2 q3 q4 pc pf => ?_)
  have e1 := hcl.2.2.2.2.2.2.1.co.1
  have e2 := pc.2.2.2.2.2.2.1.co.1
  obtain rfl : n1 = n := by omega
  have e : s_bf (pC P C) (c : Int) (q : Int) (a : Int) (b : Int) = (pB P c).2.2.2 q (9 * a + b) := s_bf_eq hc hq hab.1 hab.2
  rw [e]
  exact hQ k1 h1 (by omega) ⟨⟨nb1, cb1, pc⟩, hw, (hpr.frame (fun q hq => pf q (Or.inl hq))), ⟨hs.1, (pf _ (Or.inl hs.1)).trans hs.2⟩⟩
set_option maxHeartbeats 4000000 in
set_option maxRecDepth 100000 in
theorem w_X9_coneHeight {n0 n k : Nat} {g : Nat → zV} {h : zHp} {Q : Option zV → Nat → Nat → zHp → Prop} {B sA len : Nat} {P : pT} {C f : Nat → Int} {c i : Nat} (hP : pwf P) (hB : n0 ≤ B) (hW : wAt g h B n P C sA len f) (hc : c < pN P) (hi : i < 9) (hQ : ∀ (k' : Nat) (h' : zHp), (k' ≤ k) → (wAt g h' B n P C sA len f) → Q (some (.inl (((pB P c).1 i) : Int))) n k' h') : ZT n0 g mX9_coneHeight 0 (zloc mX9_coneHeight [.inr (some B), .inl (c : Int), .inl (i : Int)]) [] n k h Q := by
  obtain ⟨⟨nb, cb, hcl⟩, hw, hpr, hs⟩ := id hW
  refine m_X9_coneHeight  hw lwf_zero iwf_nil owf_nil vwf_zero hB hcl (fun nb1 cb1 n1 k1 h1 q1 q2 q3 q4 pc pf => ?_)
  have e1 := hcl.2.2.2.2.2.2.1.co.1
  have e2 := pc.2.2.2.2.2.2.1.co.1
  obtain rfl : n1 = n := by omega
  have e : s_ht (pC P C) (c : Int) (i : Int) = ((pB P c).1 i : Int) := s_ht_eq hc hi
  rw [e]
  exact hQ k1 h1 (by omega) ⟨⟨nb1, cb1, pc⟩, hw, (hpr.frame (fun q hq => pf q (Or.inl hq))), ⟨hs.1, (pf _ (Or.inl hs.1)).trans hs.2⟩⟩
set_option maxHeartbeats 4000000 in
set_option maxRecDepth 100000 in
theorem x_X9_coneHeight {n0 n k : Nat} {g : Nat → zV} {h : zHp} {Q : Option zV → Nat → Nat → zHp → Prop} {B sA len : Nat} {P : pT} {C f : Nat → Int} {i x : Int} (hP : pwf P) (hB : n0 ≤ B) (hW : wAt g h B n P C sA len f) (hQ : ∀ (k' : Nat) (h' : zHp), (k' ≤ k) → (wAt g h' B n P C sA len f) → Q (some (.inl (s_ht P i x))) n k' h') : ZT n0 g mX9_coneHeight 0 (zloc mX9_coneHeight [.inr (some B), .inl i, .inl x]) [] n k h Q := by
  obtain ⟨⟨nb, cb, hcl⟩, hw, hpr, hs⟩ := id hW
  refine m_X9_coneHeight  hw lwf_zero iwf_nil owf_nil vwf_zero hB hcl (fun nb1 cb1 n1 k1 h1 q1 q2 q3 q4 pc pf => ?_)
  have e1 := hcl.2.2.2.2.2.2.1.co.1
  have e2 := pc.2.2.2.2.2.2.1.co.1
  obtain rfl : n1 = n := by omega
  exact hQ k1 h1 (by omega) ⟨⟨nb1, cb1, pc⟩, hw, (hpr.frame (fun q hq => pf q (Or.inl hq))), ⟨hs.1, (pf _ (Or.inl hs.1)).trans hs.2⟩⟩
set_option maxHeartbeats 4000000 in
set_option maxRecDepth 100000 in
theorem w_X9_wallNumerator {n0 n k : Nat} {g : Nat → zV} {h : zHp} {Q : Option zV → Nat → Nat → zHp → Prop} {B sA len : Nat} {P : pT} {C f : Nat → Int} {c : Nat} (hP : pwf P) (hB : n0 ≤ B) (hW : wAt g h B n P C sA len f) (hw1 : c + 1 < pN P) (hQ : ∀ (k' : Nat) (h' : zHp), (k' ≤ k) → (wAt g h' B n P C sA len f) → Q (some (.inl (((pW P c).1) : Int))) n k' h') : ZT n0 g mX9_wallNumerator 0 (zloc mX9_wallNumerator [.inr (some B), .inl (c : Int)]) [] n k h Q := by
  obtain ⟨⟨nb, cb, hcl⟩, hw, hpr, hs⟩ := id hW
  have hw0 : pwf P := hP
  refine m_X9_wallNumerator  hw lwf_zero iwf_nil owf_nil vwf_zero hB hcl (fun nb1 cb1 n1 k1 h1 q1 q2 q3 q4 pc pf => ?_)
  have e1 := hcl.2.2.2.2.2.2.1.co.1
  have e2 := pc.2.2.2.2.2.2.1.co.1
  obtain rfl : n1 = n := by omega
  have e : s_w (pC P C) Prod.fst (c : Int) = ((pW P c).1 : Int) := s_w_eq hP hw1
  rw [e]
  exact hQ k1 h1 (by omega) ⟨⟨nb1, cb1, pc⟩, hw, (hpr.frame (fun q hq => pf q (Or.inl hq))), ⟨hs.1, (pf _ (Or.inl hs.1)).trans hs.2⟩⟩
set_option maxHeartbeats 4000000 in
set_option maxRecDepth 100000 in
theorem x_X9_wallNumerator {n0 n k : Nat} {g : Nat → zV} {h : zHp} {Q : Option zV → Nat → Nat → zHp → Prop} {B sA len : Nat} {P : pT} {C f : Nat → Int} {i : Int} (hP : pwf P) (hB : n0 ≤ B) (hW : wAt g h B n P C sA len f) (hQ : ∀ (k' : Nat) (h' : zHp), (k' ≤ k) → (wAt g h' B n P C sA len f) → Q (some (.inl (s_w P Prod.fst i))) n k' h') : ZT n0 g mX9_wallNumerator 0 (zloc mX9_wallNumerator [.inr (some B), .inl i]) [] n k h Q := by
  obtain ⟨⟨nb, cb, hcl⟩, hw, hpr, hs⟩ := id hW
  refine m_X9_wallNumerator  hw lwf_zero iwf_nil owf_nil vwf_zero hB hcl (fun nb1 cb1 n1 k1 h1 q1 q2 q3 q4 pc pf => ?_)
  have e1 := hcl.2.2.2.2.2.2.1.co.1
  have e2 := pc.2.2.2.2.2.2.1.co.1
  obtain rfl : n1 = n := by omega
  exact hQ k1 h1 (by omega) ⟨⟨nb1, cb1, pc⟩, hw, (hpr.frame (fun q hq => pf q (Or.inl hq))), ⟨hs.1, (pf _ (Or.inl hs.1)).trans hs.2⟩⟩
set_option maxHeartbeats 4000000 in
set_option maxRecDepth 100000 in
theorem w_X9_wallDenominator {n0 n k : Nat} {g : Nat → zV} {h : zHp} {Q : Option zV → Nat → Nat → zHp → Prop} {B sA len : Nat} {P : pT} {C f : Nat → Int} {c : Nat} (hP : pwf P) (hB : n0 ≤ B) (hW : wAt g h B n P C sA len f) (hw1 : c + 1 < pN P) (hQ : ∀ (k' : Nat) (h' : zHp), (k' ≤ k) → (wAt g h' B n P C sA len f) → Q (some (.inl (((pW P c).2) : Int))) n k' h') : ZT n0 g mX9_wallDenominator 0 (zloc mX9_wallDenominator [.inr (some B), .inl (c : Int)]) [] n k h Q := by
  obtain ⟨⟨nb, cb, hcl⟩, hw, hpr, hs⟩ := id hW
  have hw0 : pwf P := hP
  refine m_X9_wallDenominator  hw lwf_zero iwf_nil owf_nil vwf_zero hB hcl (fun nb1 cb1 n1 k1 h1 q1 q2 q3 q4 pc pf => ?_)
  have e1 := hcl.2.2.2.2.2.2.1.co.1
  have e2 := pc.2.2.2.2.2.2.1.co.1
  obtain rfl : n1 = n := by omega
  have e : s_w (pC P C) Prod.snd (c : Int) = ((pW P c).2 : Int) := s_w_eq hP hw1
  rw [e]
  exact hQ k1 h1 (by omega) ⟨⟨nb1, cb1, pc⟩, hw, (hpr.frame (fun q hq => pf q (Or.inl hq))), ⟨hs.1, (pf _ (Or.inl hs.1)).trans hs.2⟩⟩
set_option maxHeartbeats 4000000 in
set_option maxRecDepth 100000 in
theorem x_X9_wallDenominator {n0 n k : Nat} {g : Nat → zV} {h : zHp} {Q : Option zV → Nat → Nat → zHp → Prop} {B sA len : Nat} {P : pT} {C f : Nat → Int} {i : Int} (hP : pwf P) (hB : n0 ≤ B) (hW : wAt g h B n P C sA len f) (hQ : ∀ (k' : Nat) (h' : zHp), (k' ≤ k) → (wAt g h' B n P C sA len f) → Q (some (.inl (s_w P Prod.snd i))) n k' h') : ZT n0 g mX9_wallDenominator 0 (zloc mX9_wallDenominator [.inr (some B), .inl i]) [] n k h Q := by
  obtain ⟨⟨nb, cb, hcl⟩, hw, hpr, hs⟩ := id hW
  refine m_X9_wallDenominator  hw lwf_zero iwf_nil owf_nil vwf_zero hB hcl (fun nb1 cb1 n1 k1 h1 q1 q2 q3 q4 pc pf => ?_)
  have e1 := hcl.2.2.2.2.2.2.1.co.1
  have e2 := pc.2.2.2.2.2.2.1.co.1
  obtain rfl : n1 = n := by omega
  exact hQ k1 h1 (by omega) ⟨⟨nb1, cb1, pc⟩, hw, (hpr.frame (fun q hq => pf q (Or.inl hq))), ⟨hs.1, (pf _ (Or.inl hs.1)).trans hs.2⟩⟩
set_option maxHeartbeats 4000000 in
set_option maxRecDepth 100000 in
theorem w_X9_firstConeContaining {n0 n k : Nat} {g : Nat → zV} {h : zHp} {Q : Option zV → Nat → Nat → zHp → Prop} {B sA len : Nat} {P : pT} {C f : Nat → Int} {u v : Int} (hP : pwf P) (hB : n0 ≤ B) (hW : wAt g h B n P C sA len f) (huv : sWt u v) (hQ : ∀ (k' : Nat) (h' : zHp), (k' ≤ k) → (wAt g h' B n P C sA len f) → Q (some (.inl ((zfiw P u v) : Int))) n k' h') : ZT n0 g mX9_firstConeContaining 0 (zloc mX9_firstConeContaining [.inr (some B), .inl u, .inl v]) [] n k h Q := by
  obtain ⟨⟨nb, cb, hcl⟩, hw, hpr, hs⟩ := id hW
  refine m_X9_firstConeContaining  hw lwf_zero iwf_nil owf_nil vwf_zero hB hcl (fun nb1 cb1 n1 k1 h1 q1 q2 q3 q4 pc pf => ?_)
  have e1 := hcl.2.2.2.2.2.2.1.co.1
  have e2 := pc.2.2.2.2.2.2.1.co.1
  obtain rfl : n1 = n := by omega
  have e : s_fi (pC P C) u v = (zfiw P u v : Int) := if_pos huv
  rw [e]
  exact hQ k1 h1 (by omega) ⟨⟨nb1, cb1, pc⟩, hw, (hpr.frame (fun q hq => pf q (Or.inl hq))), ⟨hs.1, (pf _ (Or.inl hs.1)).trans hs.2⟩⟩
set_option maxHeartbeats 4000000 in
set_option maxRecDepth 100000 in
theorem w_X9_conesContaining {n0 n k : Nat} {g : Nat → zV} {h : zHp} {Q : Option zV → Nat → Nat → zHp → Prop} {B sA len : Nat} {P : pT} {C f : Nat → Int} {u v : Int} (hP : pwf P) (hB : n0 ≤ B) (hW : wAt g h B n P C sA len f) (hQ : ∀ (k' : Nat) (h' : zHp), (k' ≤ k) → (wAt g h' B n P C sA len f) → Q (some (.inl (s_mn P u v))) n k' h') : ZT n0 g mX9_conesContaining 0 (zloc mX9_conesContaining [.inr (some B), .inl u, .inl v]) [] n k h Q := by
  obtain ⟨⟨nb, cb, hcl⟩, hw, hpr, hs⟩ := id hW
  refine m_X9_conesContaining  hw lwf_zero iwf_nil owf_nil vwf_zero hB hcl (fun nb1 cb1 n1 k1 h1 q1 q2 q3 q4 pc pf => ?_)
  have e1 := hcl.2.2.2.2.2.2.1.co.1
  have e2 := pc.2.2.2.2.2.2.1.co.1
  obtain rfl : n1 = n := by omega
  exact hQ k1 h1 (by omega) ⟨⟨nb1, cb1, pc⟩, hw, (hpr.frame (fun q hq => pf q (Or.inl hq))), ⟨hs.1, (pf _ (Or.inl hs.1)).trans hs.2⟩⟩
set_option maxHeartbeats 4000000 in
set_option maxRecDepth 100000 in
theorem w_X9_changedCorners {n0 n k : Nat} {g : Nat → zV} {h : zHp} {Q : Option zV → Nat → Nat → zHp → Prop} {B sA len : Nat} {P : pT} {C f : Nat → Int} {i : Int} (hP : pwf P) (hB : n0 ≤ B) (hW : wAt g h B n P C sA len f) (hQ : ∀ (k' : Nat) (h' : zHp), (k' ≤ k) → (wAt g h' B n P C sA len f) → Q (some (.inl (s_chg P i))) n k' h') : ZT n0 g mX9_changedCorners 0 (zloc mX9_changedCorners [.inr (some B), .inl i]) [] n k h Q := by
  obtain ⟨⟨nb, cb, hcl⟩, hw, hpr, hs⟩ := id hW
  refine m_X9_changedCorners  hw lwf_zero iwf_nil owf_nil vwf_zero hB hcl (fun nb1 cb1 n1 k1 h1 q1 q2 q3 q4 pc pf => ?_)
  have e1 := hcl.2.2.2.2.2.2.1.co.1
  have e2 := pc.2.2.2.2.2.2.1.co.1
  obtain rfl : n1 = n := by omega
  exact hQ k1 h1 (by omega) ⟨⟨nb1, cb1, pc⟩, hw, (hpr.frame (fun q hq => pf q (Or.inl hq))), ⟨hs.1, (pf _ (Or.inl hs.1)).trans hs.2⟩⟩
set_option maxHeartbeats 4000000 in
set_option maxRecDepth 100000 in
theorem w_X9_universalSize {n0 n k : Nat} {g : Nat → zV} {h : zHp} {Q : Option zV → Nat → Nat → zHp → Prop} {B sA len : Nat} {P : pT} {C f : Nat → Int} (hP : pwf P) (hB : n0 ≤ B) (hW : wAt g h B n P C sA len f) (hQ : ∀ (k' : Nat) (h' : zHp), (k' ≤ k) → (wAt g h' B n P C sA len f) → Q (some (.inl ((zuc (pB P) (pN P)) : Int))) n k' h') : ZT n0 g mX9_universalSize 0 (zloc mX9_universalSize [.inr (some B)]) [] n k h Q := by
  obtain ⟨⟨nb, cb, hcl⟩, hw, hpr, hs⟩ := id hW
  refine m_X9_universalSize  hw lwf_zero iwf_nil owf_nil vwf_zero hB hcl (fun nb1 cb1 n1 k1 h1 q1 q2 q3 q4 pc pf => ?_)
  have e1 := hcl.2.2.2.2.2.2.1.co.1
  have e2 := pc.2.2.2.2.2.2.1.co.1
  obtain rfl : n1 = n := by omega
  exact hQ k1 h1 (by omega) ⟨⟨nb1, cb1, pc⟩, hw, (hpr.frame (fun q hq => pf q (Or.inl hq))), ⟨hs.1, (pf _ (Or.inl hs.1)).trans hs.2⟩⟩
set_option maxHeartbeats 4000000 in
set_option maxRecDepth 100000 in
theorem w_X9_universalDegree {n0 n k : Nat} {g : Nat → zV} {h : zHp} {Q : Option zV → Nat → Nat → zHp → Prop} {B sA len : Nat} {P : pT} {C f : Nat → Int} (hP : pwf P) (hB : n0 ≤ B) (hW : wAt g h B n P C sA len f) (hQ : ∀ (k' : Nat) (h' : zHp), (k' ≤ k) → (wAt g h' B n P C sA len f) → Q (some (.inl (s_ud P))) n k' h') : ZT n0 g mX9_universalDegree 0 (zloc mX9_universalDegree [.inr (some B)]) [] n k h Q := by
  obtain ⟨⟨nb, cb, hcl⟩, hw, hpr, hs⟩ := id hW
  refine m_X9_universalDegree  hw lwf_zero iwf_nil owf_nil vwf_zero hB hcl (fun nb1 cb1 n1 k1 h1 q1 q2 q3 q4 pc pf => ?_)
  have e1 := hcl.2.2.2.2.2.2.1.co.1
  have e2 := pc.2.2.2.2.2.2.1.co.1
  obtain rfl : n1 = n := by omega
  exact hQ k1 h1 (by omega) ⟨⟨nb1, cb1, pc⟩, hw, (hpr.frame (fun q hq => pf q (Or.inl hq))), ⟨hs.1, (pf _ (Or.inl hs.1)).trans hs.2⟩⟩
set_option maxHeartbeats 4000000 in
set_option maxRecDepth 100000 in
theorem w_X9_cornerCount {n0 n k : Nat} {g : Nat → zV} {h : zHp} {Q : Option zV → Nat → Nat → zHp → Prop} {B sA len : Nat} {P : pT} {C f : Nat → Int} {u v t : Int} (hP : pwf P) (hB : n0 ≤ B) (hW : wAt g h B n P C sA len f) (ho : sOrd u v t) (hQ : ∀ (k' : Nat) (h' : zHp), (k' ≤ k) → (wAt g h' B n P C sA len f) → Q (some (.inl (((pZ P u v t).2.1) : Int))) n k' h') : ZT n0 g mX9_cornerCount 0 (zloc mX9_cornerCount [.inr (some B), .inl u, .inl v, .inl t]) [] n k h Q := by
  obtain ⟨⟨nb, cb, hcl⟩, hw, hpr, hs⟩ := id hW
  refine m_X9_cornerCount  hw lwf_zero iwf_nil owf_nil vwf_zero hB hcl (fun h1 pc pf => ?_)
  have e : s_cc (pC P C) u v t = ((pZ P u v t).2.1 : Int) := if_pos ho
  rw [e]
  exact hQ k h1 (Nat.le_refl _) ⟨⟨nb, cb, pc⟩, hw, (hpr.frame (fun q hq => pf q (Or.inl hq))), ⟨hs.1, (pf _ (Or.inl hs.1)).trans hs.2⟩⟩
set_option maxHeartbeats 4000000 in
set_option maxRecDepth 100000 in
theorem w_X9_corner {n0 n k : Nat} {g : Nat → zV} {h : zHp} {Q : Option zV → Nat → Nat → zHp → Prop} {B sA len : Nat} {P : pT} {C f : Nat → Int} {u v t : Int} {i : Nat} (hP : pwf P) (hB : n0 ≤ B) (hW : wAt g h B n P C sA len f) (ho : sOrd u v t) (hi : i < (pZ P u v t).2.1) (hQ : ∀ (k' : Nat) (h' : zHp), (k' ≤ k) → (wAt g h' B n P C sA len f) → Q (some (.inl (zdec ((pZ P u v t).2.2.1 i)))) n k' h') : ZT n0 g mX9_corner 0 (zloc mX9_corner [.inr (some B), .inl u, .inl v, .inl t, .inl (i : Int)]) [] n k h Q := by
  obtain ⟨⟨nb, cb, hcl⟩, hw, hpr, hs⟩ := id hW
  refine m_X9_corner  hw lwf_zero iwf_nil owf_nil vwf_zero hB hcl (fun h1 pc pf => ?_)
  have e : s_co (pC P C) u v t (i : Int) = zdec ((pZ P u v t).2.2.1 i) := s_co_eq ho hi
  rw [e]
  exact hQ k h1 (Nat.le_refl _) ⟨⟨nb, cb, pc⟩, hw, (hpr.frame (fun q hq => pf q (Or.inl hq))), ⟨hs.1, (pf _ (Or.inl hs.1)).trans hs.2⟩⟩
set_option maxHeartbeats 4000000 in
set_option maxRecDepth 100000 in
theorem w_X9_columnHeight {n0 n k : Nat} {g : Nat → zV} {h : zHp} {Q : Option zV → Nat → Nat → zHp → Prop} {B sA len : Nat} {P : pT} {C f : Nat → Int} {u v t : Int} {i : Nat} (hP : pwf P) (hB : n0 ≤ B) (hW : wAt g h B n P C sA len f) (ho : sOrd u v t) (hi : i < 9) (hQ : ∀ (k' : Nat) (h' : zHp), (k' ≤ k) → (wAt g h' B n P C sA len f) → Q (some (.inl (((pZ P u v t).1 i) : Int))) n k' h') : ZT n0 g mX9_columnHeight 0 (zloc mX9_columnHeight [.inr (some B), .inl u, .inl v, .inl t, .inl (i : Int)]) [] n k h Q := by
  obtain ⟨⟨nb, cb, hcl⟩, hw, hpr, hs⟩ := id hW
  refine m_X9_columnHeight  hw lwf_zero iwf_nil owf_nil vwf_zero hB hcl (fun h1 pc pf => ?_)
  have e : s_ch (pC P C) u v t (i : Int) = ((pZ P u v t).1 i : Int) := s_ch_eq ho hi
  rw [e]
  exact hQ k h1 (Nat.le_refl _) ⟨⟨nb, cb, pc⟩, hw, (hpr.frame (fun q hq => pf q (Or.inl hq))), ⟨hs.1, (pf _ (Or.inl hs.1)).trans hs.2⟩⟩
set_option maxHeartbeats 4000000 in
set_option maxRecDepth 100000 in
theorem w_X9_loadBasisPolynomial {n0 n k : Nat} {g : Nat → zV} {h : zHp} {Q : Option zV → Nat → Nat → zHp → Prop} {B sA len : Nat} {P : pT} {C f : Nat → Int} {c q : Nat} (hP : pwf P) (hB : n0 ≤ B) (hW : wAt g h B n P C sA len f) (hc : c < pN P) (hq : q < (pB P c).2.1) (hQ : ∀ (k' : Nat) (h' : zHp), (k' ≤ k) → (wAt g h' B n P ((pB P c).2.2.2 q) sA len f) → Q (some (.inl ((znz ((pB P c).2.2.2 q) 81) : Int))) n k' h') : ZT n0 g mX9_loadBasisPolynomial 0 (zloc mX9_loadBasisPolynomial [.inr (some B), .inl (c : Int), .inl (q : Int)]) [] n k h Q := by
  obtain ⟨⟨nb, cb, hcl⟩, hw, hpr, hs⟩ := id hW
  refine m_X9_loadBasisPolynomial  hw lwf_zero iwf_nil owf_nil vwf_zero hB hcl (fun nb1 cb1 n1 k1 h1 q1 q2 q3 q4 pc pf => ?_)
  have e1 := hcl.2.2.2.2.2.2.1.co.1
  have e2 := pc.2.2.2.2.2.2.1.co.1
  obtain rfl : n1 = n := by omega
  have e : s_lb (pC P C) (c : Int) (q : Int) = ((znz ((pB P c).2.2.2 q) 81 : Int), pC P ((pB P c).2.2.2 q)) := s_lb_eq hc hq
  have w9 := wf_lb hw (c : Int) (q : Int)
  rw [e] at pc w9 ⊢
  exact hQ k1 h1 (by omega) ⟨⟨nb1, cb1, pc⟩, w9, (hpr.frame (fun q hq => pf q (Or.inl hq))), ⟨hs.1, (pf _ (Or.inl hs.1)).trans hs.2⟩⟩
set_option maxHeartbeats 4000000 in
set_option maxRecDepth 100000 in
theorem w_X9_setPrime {n0 n k : Nat} {g : Nat → zV} {h : zHp} {Q : Option zV → Nat → Nat → zHp → Prop} {B sA len : Nat} {P : pT} {C f : Nat → Int} {x : Int} (hP : pwf P) (hB : n0 ≤ B) (hW : wAt g h B n P C sA len f) (hQ : ∀ (P' : pT) (z : Int) (k' : Nat) (h' : zHp), (k' ≤ k) → (pwf P') → (wAt g h' B n P' P'.2.2.2.2 sA len f) → Q (some (.inl z)) n k' h') : ZT n0 g mX9_setPrime 0 (zloc mX9_setPrime [.inr (some B), .inl x]) [] n k h Q := by
  obtain ⟨⟨nb, cb, hcl⟩, hw, hpr, hs⟩ := id hW
  refine m_X9_setPrime hw lwf_zero iwf_nil owf_nil vwf_zero hB hcl hpr (fun h1 pc pf => ?_)
  exact hQ (s_prime (pC P C) x).2 (s_prime (pC P C) x).1 k h1 (Nat.le_refl _) (wf_prime hw x) ⟨⟨nb, cb, pc⟩, (wf_prime hw x), (hpr.frame (fun q hq => pf q (Or.inl hq))), ⟨hs.1, (pf _ (Or.inl hs.1)).trans hs.2⟩⟩
set_option maxHeartbeats 4000000 in
set_option maxRecDepth 100000 in
theorem w_X9_addPoint {n0 n k : Nat} {g : Nat → zV} {h : zHp} {Q : Option zV → Nat → Nat → zHp → Prop} {B sA len : Nat} {P : pT} {C f : Nat → Int} {x y : Int} (hP : pwf P) (hB : n0 ≤ B) (hW : wAt g h B n P C sA len f) (hQ : ∀ (P' : pT) (z : Int) (k' : Nat) (h' : zHp), (k' ≤ k) → (pwf P') → (wAt g h' B n P' P'.2.2.2.2 sA len f) → Q (some (.inl z)) n k' h') : ZT n0 g mX9_addPoint 0 (zloc mX9_addPoint [.inr (some B), .inl x, .inl y]) [] n k h Q := by
  obtain ⟨⟨nb, cb, hcl⟩, hw, hpr, hs⟩ := id hW
  refine m_X9_addPoint hw lwf_zero iwf_nil owf_nil vwf_zero hB hcl (fun h1 pc pf => ?_)
  exact hQ (s_add (pC P C) x y).2 (s_add (pC P C) x y).1 k h1 (Nat.le_refl _) (wf_add hw x y) ⟨⟨nb, cb, pc⟩, (wf_add hw x y), (hpr.frame (fun q hq => pf q (Or.inl hq))), ⟨hs.1, (pf _ (Or.inl hs.1)).trans hs.2⟩⟩
