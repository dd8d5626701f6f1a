/-! ===== the reference: its picture; calls on points: printed by wip/whole/gen/s_ref7.py ===== -/
def rPt (h : zHp) (m : Nat) (P : pT) : Prop := ∃ xs ys : Nat → Int, zar h (m + 1) 8 xs ∧ zar h (m + 2) 8 ys ∧ ∀ k, k < P.2.1 → xs k = P.2.2.1 k ∧ ys k = P.2.2.2.1 k
def rCu (h : zHp) (m : Nat) (C : Nat → Int) : Prop := ∃ cu : Nat → Int, zar h (m + 3) 81 cu ∧ ∀ i, i < 81 → cu i = C i
def rWk (h : zHp) (m : Nat) : Prop := ∃ od iS sd re cb pv ve fa hh co po : Nat → Int, zar h (m + 4) 81 od ∧ h (m + 5) = some (.inr (.inl (2, 81, iS))) ∧ zar h (m + 6) 8 sd ∧ zar h (m + 7) 64 re ∧ zar h (m + 8) 64 cb ∧ zar h (m + 9) 8 pv ∧ zar h (m + 10) 8 ve ∧ zar h (m + 11) 8 fa ∧ zar h (m + 12) 9 hh ∧ zar h (m + 13) 9 co ∧ zar h (m + 14) 729 po
def rFa (h : zHp) (m : Nat) (fk cn : Int) (P : pT) : Prop := ∃ tp bt sz ch cc cl : Nat → Int, zar h (m + 15) 32 tp ∧ zar h (m + 16) 32 bt ∧ zar h (m + 17) 32 sz ∧ zar h (m + 18) 288 ch ∧ zar h (m + 19) 288 cc ∧ zar h (m + 20) 23328 cl ∧ (fk = 0 ∨ (fk = 1 ∧ cn = (pN P : Int) ∧ rfan (pN P) (pB P) (pW P) tp bt sz ch cc cl))
def rSy (h : zHp) (m : Nat) : Prop := ∃ wa sy un : Nat → Int, zar h (m + 21) 8 wa ∧ zar h (m + 22) 72 sy ∧ zar h (m + 23) 8 un
def rIn (h : zHp) (m : Nat) (I : tT) : Prop := ∃ by' : Nat → Int, zar h (m + 24) 60 by' ∧ ∀ i, i < I.1 → by' i = I.2 i
def rOu (h : zHp) (m : Nat) (O : tT) : Prop := ∃ by' : Nat → Int, zar h (m + 25) 120 by' ∧ ∀ i, i < O.1 → by' i = O.2 i
def rSl (h : zHp) (m : Nat) (L : lT) : Prop := ∃ ki le el st : Nat → Int, zar h (m + 26) 4 ki ∧ zar h (m + 27) 4 le ∧ zar h (m + 28) 80 el ∧ zar h (m + 29) 324 st ∧ ∀ k, k < 4 → ki k = (L.1 k : Int) ∧ (L.1 k = 1 → le k = (L.2.1 k : Int) ∧ ∀ i, i < L.2.1 k → el (20 * k + i) = L.2.2.1 k i) ∧ (L.1 k = 2 → ∀ x, x < 81 → st (81 * k + x) = L.2.2.2 k x)
def rSv (h : zHp) (m : Nat) (V : Int × pT) (sp ss : Int) : Prop := ∃ xs ys cu : Nat → Int, zar h (m + 30) 8 xs ∧ zar h (m + 31) 8 ys ∧ zar h (m + 32) 81 cu ∧ (V.1 = 0 ∨ (sp = V.2.1 ∧ ss = (V.2.2.1 : Int) ∧ (∀ k, k < V.2.2.1 → xs k = V.2.2.2.1 k ∧ ys k = V.2.2.2.2.1 k) ∧ ∀ i, i < 81 → cu i = V.2.2.2.2.2 i))
def rfO (fk : Int) (z c : Nat) (cn en ax nu sp ss : Int) (h : zHp) (m : Nat) (P : pT) (L : lT) (I O : tT) (V : Int × pT) : Prop := h m = some (.inl (11, mOb m P.1 (P.2.1 : Int) fk (z : Int) (c : Int) cn (I.1 : Int) en ax nu (O.1 : Int) V.1 sp ss)) ∧ rPt h m P ∧ rCu h m P.2.2.2.2 ∧ rWk h m ∧ rFa h m fk cn P ∧ rSy h m ∧ rIn h m I ∧ rOu h m O ∧ rSl h m L ∧ rSv h m V sp ss
def rfF (fk : Int) (h : zHp) (m : Nat) (P : pT) (L : lT) (I O : tT) (V : Int × pT) : Prop := ∃ (z c : Nat) (cn en ax nu sp ss : Int), rfO fk z c cn en ax nu sp ss h m P L I O V
def rfAt (h : zHp) (m : Nat) (P : pT) (L : lT) (I O : tT) (V : Int × pT) : Prop := ∃ fk : Int, rfF fk h m P L I O V
theorem rPt.frame {h h' : zHp} {m : Nat} {P : pT} (g : rPt h m P) (f : ∀ q, m + 1 ≤ q → q < m + 3 → h' q = h q) : rPt h' m P := by
  obtain ⟨x0, x1, c0, c1, t⟩ := g
  exact ⟨x0, x1, (f _ (by omega) (by omega)).trans c0, (f _ (by omega) (by omega)).trans c1, t⟩
theorem rCu.frame {h h' : zHp} {m : Nat} {C : Nat → Int} (g : rCu h m C) (f : ∀ q, m + 3 ≤ q → q < m + 4 → h' q = h q) : rCu h' m C := by
  obtain ⟨x0, c0, t⟩ := g
  exact ⟨x0, (f _ (by omega) (by omega)).trans c0, t⟩
theorem rWk.frame {h h' : zHp} {m : Nat} (g : rWk h m) (f : ∀ q, m + 4 ≤ q → q < m + 15 → h' q = h q) : rWk h' m := by
  obtain ⟨x0, x1, x2, x3, x4, x5, x6, x7, x8, x9, x10, c0, c1, c2, c3, c4, c5, c6, c7, c8, c9, c10⟩ := g
  exact ⟨x0, x1, x2, x3, x4, x5, x6, x7, x8, x9, x10, (f _ (by omega) (by omega)).trans c0, (f _ (by omega) (by omega)).trans c1, (f _ (by omega) (by omega)).trans c2, (f _ (by omega) (by omega)).trans c3, (f _ (by omega) (by omega)).trans c4, (f _ (by omega) (by omega)).trans c5, (f _ (by omega) (by omega)).trans c6, (f _ (by omega) (by omega)).trans c7, (f _ (by omega) (by omega)).trans c8, (f _ (by omega) (by omega)).trans c9, (f _ (by omega) (by omega)).trans c10⟩
theorem rFa.frame {h h' : zHp} {m : Nat} {fk cn : Int} {P : pT} (g : rFa h m fk cn P) (f : ∀ q, m + 15 ≤ q → q < m + 21 → h' q = h q) : rFa h' m fk cn P := by
  obtain ⟨x0, x1, x2, x3, x4, x5, c0, c1, c2, c3, c4, c5, t⟩ := g
  exact ⟨x0, x1, x2, x3, x4, x5, (f _ (by omega) (by omega)).trans c0, (f _ (by omega) (by omega)).trans c1, (f _ (by omega) (by omega)).trans c2, (f _ (by omega) (by omega)).trans c3, (f _ (by omega) (by omega)).trans c4, (f _ (by omega) (by omega)).trans c5, t⟩
theorem rSy.frame {h h' : zHp} {m : Nat} (g : rSy h m) (f : ∀ q, m + 21 ≤ q → q < m + 24 → h' q = h q) : rSy h' m := by
  obtain ⟨x0, x1, x2, c0, c1, c2⟩ := g
  exact ⟨x0, x1, x2, (f _ (by omega) (by omega)).trans c0, (f _ (by omega) (by omega)).trans c1, (f _ (by omega) (by omega)).trans c2⟩
theorem rIn.frame {h h' : zHp} {m : Nat} {I : tT} (g : rIn h m I) (f : ∀ q, m + 24 ≤ q → q < m + 25 → h' q = h q) : rIn h' m I := by
  obtain ⟨x0, c0, t⟩ := g
  exact ⟨x0, (f _ (by omega) (by omega)).trans c0, t⟩
theorem rOu.frame {h h' : zHp} {m : Nat} {O : tT} (g : rOu h m O) (f : ∀ q, m + 25 ≤ q → q < m + 26 → h' q = h q) : rOu h' m O := by
  obtain ⟨x0, c0, t⟩ := g
  exact ⟨x0, (f _ (by omega) (by omega)).trans c0, t⟩
theorem rSl.frame {h h' : zHp} {m : Nat} {L : lT} (g : rSl h m L) (f : ∀ q, m + 26 ≤ q → q < m + 30 → h' q = h q) : rSl h' m L := by
  obtain ⟨x0, x1, x2, x3, c0, c1, c2, c3, t⟩ := g
  exact ⟨x0, x1, x2, x3, (f _ (by omega) (by omega)).trans c0, (f _ (by omega) (by omega)).trans c1, (f _ (by omega) (by omega)).trans c2, (f _ (by omega) (by omega)).trans c3, t⟩
theorem rSv.frame {h h' : zHp} {m : Nat} {V : Int × pT} {sp ss : Int} (g : rSv h m V sp ss) (f : ∀ q, m + 30 ≤ q → q < m + 33 → h' q = h q) : rSv h' m V sp ss := by
  obtain ⟨x0, x1, x2, c0, c1, c2, t⟩ := g
  exact ⟨x0, x1, x2, (f _ (by omega) (by omega)).trans c0, (f _ (by omega) (by omega)).trans c1, (f _ (by omega) (by omega)).trans c2, t⟩
theorem zpr_tab : ∀ q : Nat, q < 32 → 2 ≤ q → zprB (q : Int) = !(List.range q).any (fun d => decide (2 ≤ d) && decide (q % d = 0)) := by decide
theorem zpr_ex {q : Nat} (h2 : 2 ≤ q) (h : q < 32) : (∃ d : Nat, 2 ≤ d ∧ d < q ∧ (q : Int) % (d : Int) = 0) ↔ zprB (q : Int) = false := by
  rw [zpr_tab q h h2]
  constructor
  · rintro ⟨d, a, b, e⟩
    have e1 : q % d = 0 := by rw [← Int.natCast_emod] at e; exact_mod_cast e
    rw [List.any_eq_true.mpr ⟨d, List.mem_range.mpr b, by simp [a, e1]⟩]; rfl
  · intro e
    have e2 : (List.range q).any (fun d => decide (2 ≤ d) && decide (q % d = 0)) = true := by simpa using e
    obtain ⟨d, hd, hx⟩ := List.any_eq_true.mp e2
    simp at hx
    refine ⟨d, hx.1, List.mem_range.mp hd, ?_⟩
    rw [← Int.natCast_emod, hx.2]; rfl
theorem rFa.forget {h : zHp} {m : Nat} {fk cn cn' : Int} {P P' : pT} (g : rFa h m fk cn P) : rFa h m 0 cn' P' := by
  obtain ⟨x0, x1, x2, x3, x4, x5, c0, c1, c2, c3, c4, c5, -⟩ := g
  exact ⟨x0, x1, x2, x3, x4, x5, c0, c1, c2, c3, c4, c5, Or.inl rfl⟩
theorem rFa.cur {h : zHp} {m : Nat} {fk cn : Int} {P : pT} (g : rFa h m fk cn P) (C : Nat → Int) : rFa h m fk cn (pC P C) := g
theorem rfF.at {fk : Int} {h : zHp} {m : Nat} {P : pT} {L : lT} {I O : tT} {V : Int × pT} (g : rfF fk h m P L I O V) : rfAt h m P L I O V := ⟨fk, g⟩
set_option maxHeartbeats 4000000 in
set_option maxRecDepth 100000 in
theorem m_X10_prime {n0 n k : Nat} {g : Nat → zV} {h : zHp} {Q : Option zV → Nat → Nat → zHp → Prop} {m : Nat} {P : pT} {L : lT} {I O : tT} {V : Int × pT} (hP : pwf P) (hL : lwf L) (hI : iwf I) (hO : owf O) (hV : vwf V) (hB : n0 ≤ m) (hrf : rfAt h m P L I O V) (hQ : Q (some (.inl P.1)) n k h) : ZT n0 g mX10_prime 0 (zloc mX10_prime [.inr (some m)]) [] n k h Q := by
  show ZT n0 g mX10_prime 0 [some (.inr (some m))] [] n k h Q
  obtain ⟨fk, z, c, cn, en, ax, nu, sp, ss, hM, rp, rc, rk, rf, ry, ri, ro, rl, rv⟩ := id hrf
  have hpb := hP.bd
  have hs8 := hP.2.1
  refine T_aload_n dX10_prime_0 rfl ?_
  refine T_getfield dX10_prime_1 zkf_11_7 hM rfl ?_
  refine T_iret dX10_prime_4 rfl ?_
  exact hQ
set_option maxHeartbeats 4000000 in
set_option maxRecDepth 100000 in
theorem m_X10_pointCount {n0 n k : Nat} {g : Nat → zV} {h : zHp} {Q : Option zV → Nat → Nat → zHp → Prop} {m : Nat} {P : pT} {L : lT} {I O : tT} {V : Int × pT} (hP : pwf P) (hL : lwf L) (hI : iwf I) (hO : owf O) (hV : vwf V) (hB : n0 ≤ m) (hrf : rfAt h m P L I O V) (hQ : Q (some (.inl (P.2.1 : Int))) n k h) : ZT n0 g mX10_pointCount 0 (zloc mX10_pointCount [.inr (some m)]) [] n k h Q := by
  show ZT n0 g mX10_pointCount 0 [some (.inr (some m))] [] n k h Q
  obtain ⟨fk, z, c, cn, en, ax, nu, sp, ss, hM, rp, rc, rk, rf, ry, ri, ro, rl, rv⟩ := id hrf
  have hpb := hP.bd
  have hs8 := hP.2.1
  refine T_aload_n dX10_pointCount_0 rfl ?_
  refine T_getfield dX10_pointCount_1 zkf_11_111 hM rfl ?_
  refine T_iret dX10_pointCount_4 rfl ?_
  exact hQ
set_option maxHeartbeats 4000000 in
set_option maxRecDepth 100000 in
theorem m_X10_pointX {n0 n k : Nat} {g : Nat → zV} {h : zHp} {Q : Option zV → Nat → Nat → zHp → Prop} {m : Nat} {P : pT} {L : lT} {I O : tT} {V : Int × pT} {i : Int} (hP : pwf P) (hL : lwf L) (hI : iwf I) (hO : owf O) (hV : vwf V) (hB : n0 ≤ m) (hrf : rfAt h m P L I O V) (hQ : Q (some (.inl (s_px P P.2.2.1 i))) n k h) : ZT n0 g mX10_pointX 0 (zloc mX10_pointX [.inr (some m), .inl i]) [] n k h Q := by
  show ZT n0 g mX10_pointX 0 [some (.inr (some m)), some (.inl i)] [] n k h Q
  obtain ⟨fk, z, c, cn, en, ax, nu, sp, ss, hM, rp, rc, rk, rf, ry, ri, ro, rl, rv⟩ := id hrf
  have hpb := hP.bd
  have hs8 := hP.2.1
  obtain ⟨xs, ys, p0, p1, p2⟩ := id rp
  refine T_aload_n dX10_pointX_0 rfl ?_
  refine T_iload_n dX10_pointX_1 rfl ?_
  refine T_callV dX10_pointX_2 zkm_11_129 (Or.inl rfl) rfl hM ⟨Nat.le_of_ble_eq_true rfl, rfl⟩ rfl (Nat.le_of_ble_eq_true rfl) ?_
  refine m_X10_isPoint hM (by omega) (fun k2a => ?_) (fun k2a_2 => ?_)
  · refine T_if_eq dX10_pointX_5 (t := 17) rfl (fun hc => absurd hc (by decide)) (fun _ => ?_)
    obtain ⟨j, rfl⟩ := Int.eq_ofNat_of_zero_le k2a.1
    refine T_aload_n dX10_pointX_8 rfl ?_
    refine T_getfield dX10_pointX_9 zkf_11_13 hM rfl ?_
    refine T_iload_n dX10_pointX_12 rfl ?_
    refine T_ialoadN (m := j) dX10_pointX_13 p0 rfl (by omega) ?_
    refine T_goto dX10_pointX_14 (t := 18) rfl ?_
    refine T_iret dX10_pointX_18 rfl ?_
    have e : s_px P P.2.2.1 (j : Int) = P.2.2.1 j := by unfold s_px; rw [if_pos k2a, Int.toNat_natCast]
    rw [e, ← (p2 j (by omega)).1] at hQ
    exact hQ
  · refine T_if_eq dX10_pointX_5 (t := 17) rfl (fun _ => ?_) (fun hc => absurd hc (by decide))
    refine T_iconst dX10_pointX_17 (by decide) ?_
    refine T_iret dX10_pointX_18 rfl ?_
    have e : s_px P P.2.2.1 i = -1 := by unfold s_px; rw [if_neg k2a_2]
    rw [e] at hQ
    exact hQ
set_option maxHeartbeats 4000000 in
set_option maxRecDepth 100000 in
theorem m_X10_pointY {n0 n k : Nat} {g : Nat → zV} {h : zHp} {Q : Option zV → Nat → Nat → zHp → Prop} {m : Nat} {P : pT} {L : lT} {I O : tT} {V : Int × pT} {i : Int} (hP : pwf P) (hL : lwf L) (hI : iwf I) (hO : owf O) (hV : vwf V) (hB : n0 ≤ m) (hrf : rfAt h m P L I O V) (hQ : Q (some (.inl (s_px P P.2.2.2.1 i))) n k h) : ZT n0 g mX10_pointY 0 (zloc mX10_pointY [.inr (some m), .inl i]) [] n k h Q := by
  show ZT n0 g mX10_pointY 0 [some (.inr (some m)), some (.inl i)] [] n k h Q
  obtain ⟨fk, z, c, cn, en, ax, nu, sp, ss, hM, rp, rc, rk, rf, ry, ri, ro, rl, rv⟩ := id hrf
  have hpb := hP.bd
  have hs8 := hP.2.1
  obtain ⟨xs, ys, p0, p1, p2⟩ := id rp
  refine T_aload_n dX10_pointY_0 rfl ?_
  refine T_iload_n dX10_pointY_1 rfl ?_
  refine T_callV dX10_pointY_2 zkm_11_129 (Or.inl rfl) rfl hM ⟨Nat.le_of_ble_eq_true rfl, rfl⟩ rfl (Nat.le_of_ble_eq_true rfl) ?_
  refine m_X10_isPoint hM (by omega) (fun k2a => ?_) (fun k2a_2 => ?_)
  · refine T_if_eq dX10_pointY_5 (t := 17) rfl (fun hc => absurd hc (by decide)) (fun _ => ?_)
    obtain ⟨j, rfl⟩ := Int.eq_ofNat_of_zero_le k2a.1
    refine T_aload_n dX10_pointY_8 rfl ?_
    refine T_getfield dX10_pointY_9 zkf_11_17 hM rfl ?_
    refine T_iload_n dX10_pointY_12 rfl ?_
    refine T_ialoadN (m := j) dX10_pointY_13 p1 rfl (by omega) ?_
    refine T_goto dX10_pointY_14 (t := 18) rfl ?_
    refine T_iret dX10_pointY_18 rfl ?_
    have e : s_px P P.2.2.2.1 (j : Int) = P.2.2.2.1 j := by unfold s_px; rw [if_pos k2a, Int.toNat_natCast]
    rw [e, ← (p2 j (by omega)).2] at hQ
    exact hQ
  · refine T_if_eq dX10_pointY_5 (t := 17) rfl (fun _ => ?_) (fun hc => absurd hc (by decide))
    refine T_iconst dX10_pointY_17 (by decide) ?_
    refine T_iret dX10_pointY_18 rfl ?_
    have e : s_px P P.2.2.2.1 i = -1 := by unfold s_px; rw [if_neg k2a_2]
    rw [e] at hQ
    exact hQ
set_option maxHeartbeats 4000000 in
set_option maxRecDepth 100000 in
theorem m_X10_isPrime_13 {n0 n k : Nat} {g : Nat → zV} {h : zHp} {Q : Option zV → Nat → Nat → zHp → Prop} {q : Int} (hq : 2 ≤ q ∧ q ≤ 31) (hT : (zprB q = true) → Q (some (.inl 1)) n k h) (hF : (zprB q = false) → Q (some (.inl 0)) n k h) : ∀ (d : Nat) (j : Nat) (w : Int), 31 - j = d → (2 ≤ j ∧ (j : Int) ≤ q) → ((w = 0 ∧ ∃ d : Nat, 2 ≤ d ∧ d < j ∧ q % (d : Int) = 0) ∨ (w = 1 ∧ ∀ d : Nat, 2 ≤ d → d < j → q % (d : Int) ≠ 0)) → ZT n0 g mX10_isPrime 13 [some (.inl q), some (.inl w), some (.inl (j : Int))] [] n k h Q := by
  intro d
  induction d using Nat.strongRecOn with | _ d ih => ?_
  intro j w hd0 hj hw
  subst hd0
  refine T_iload_n dX10_isPrime_13 rfl ?_
  refine T_iload_n dX10_isPrime_14 rfl ?_
  refine T_icmp_ge dX10_isPrime_15 (t := 40) rfl (fun c15 => ?_) (fun c15 => ?_)
  · refine T_iload_n dX10_isPrime_40 rfl ?_
    refine T_iret dX10_isPrime_41 (by rcases hw with ⟨rfl, _⟩ | ⟨rfl, _⟩ <;> rfl) ?_
    obtain ⟨q', rfl⟩ := Int.eq_ofNat_of_zero_le (show 0 ≤ q by omega)
    have ej : j = q' := by omega
    subst ej
    rcases hw with ⟨rfl, x⟩ | ⟨rfl, x⟩
    · exact hF ((zpr_ex hj.1 (by omega)).mp x)
    · exact hT (by
        rcases hb : zprB (j : Int) with _ | _
        · obtain ⟨d, a, b, e⟩ := (zpr_ex hj.1 (by omega)).mpr hb
          exact absurd e (x d a b)
        · rfl)
  · refine T_iload_n dX10_isPrime_18 rfl ?_
    refine T_if_eq dX10_isPrime_19 (t := 32) rfl (fun c19 => ?_) (fun c19 => ?_)
    · refine T_iconst dX10_isPrime_32 (by decide) ?_
      refine T_istore_n dX10_isPrime_33 (Nat.le_of_ble_eq_true rfl) ?_
      refine T_iinc dX10_isPrime_34 rfl ⟨by omega, by omega⟩ ?_
      refine T_goto dX10_isPrime_37 (t := 13) rfl ?_
      exact ih _ (by omega) (j + 1) 0 rfl  (by omega) (Or.inl ⟨rfl, by
            obtain ⟨d, a, b, e⟩ := (hw.resolve_right (fun x => by omega)).2
            exact ⟨d, a, by omega, e⟩⟩) 
    · refine T_iload_n dX10_isPrime_22 rfl ?_
      refine T_iload_n dX10_isPrime_23 rfl ?_
      refine T_iremN dX10_isPrime_24 ⟨by omega, by omega⟩ (by omega) ?_
      have r24 := zmod_bd q (j : Int) (by omega)
      refine T_if_eq dX10_isPrime_25 (t := 32) rfl (fun c25 => ?_) (fun c25 => ?_)
      · refine T_iconst dX10_isPrime_32 (by decide) ?_
        refine T_istore_n dX10_isPrime_33 (Nat.le_of_ble_eq_true rfl) ?_
        refine T_iinc dX10_isPrime_34 rfl ⟨by omega, by omega⟩ ?_
        refine T_goto dX10_isPrime_37 (t := 13) rfl ?_
        exact ih _ (by omega) (j + 1) 0 rfl  (by omega) (Or.inl ⟨rfl, j, hj.1, by omega, c25⟩) 
      · refine T_iconst dX10_isPrime_28 (by decide) ?_
        refine T_goto dX10_isPrime_29 (t := 33) rfl ?_
        refine T_istore_n dX10_isPrime_33 (Nat.le_of_ble_eq_true rfl) ?_
        refine T_iinc dX10_isPrime_34 rfl ⟨by omega, by omega⟩ ?_
        refine T_goto dX10_isPrime_37 (t := 13) rfl ?_
        exact ih _ (by omega) (j + 1) 1 rfl  (by omega) (Or.inr ⟨rfl, fun d a b => by
              by_cases x : d = j
              · rw [x]; exact c25
              · exact (hw.resolve_left (fun y => c19 y.1)).2 d a (by omega)⟩) 
set_option maxHeartbeats 4000000 in
set_option maxRecDepth 100000 in
theorem m_X10_isPrime {n0 n k : Nat} {g : Nat → zV} {h : zHp} {Q : Option zV → Nat → Nat → zHp → Prop} {q : Int} (hq : 2 ≤ q ∧ q ≤ 31) (hT : (zprB q = true) → Q (some (.inl 1)) n k h) (hF : (zprB q = false) → Q (some (.inl 0)) n k h) : ZT n0 g mX10_isPrime 0 (zloc mX10_isPrime [.inl q]) [] n k h Q := by
  show ZT n0 g mX10_isPrime 0 [some (.inl q), none, none] [] n k h Q
  refine T_iload_n dX10_isPrime_0 rfl ?_
  refine T_iconst dX10_isPrime_1 (by decide) ?_
  refine T_icmp_le dX10_isPrime_2 (t := 9) rfl (fun hc => absurd hc (by omega)) (fun _ => ?_)
  refine T_iconst dX10_isPrime_5 (by decide) ?_
  refine T_goto dX10_isPrime_6 (t := 10) rfl ?_
  refine T_istore_n dX10_isPrime_10 (Nat.le_of_ble_eq_true rfl) ?_
  refine T_iconst dX10_isPrime_11 (by decide) ?_
  refine T_istore_n dX10_isPrime_12 (Nat.le_of_ble_eq_true rfl) ?_
  exact m_X10_isPrime_13 hq hT hF _ 2 1 rfl  ⟨Nat.le_refl 2, hq.1⟩ (Or.inr ⟨rfl, fun d _ _ => by omega⟩) 
set_option maxHeartbeats 4000000 in
set_option maxRecDepth 100000 in
theorem m_X10_clearCurrent_2 {n0 n k : Nat} {g : Nat → zV} {h : zHp} {Q : Option zV → Nat → Nat → zHp → Prop} {m s z c : Nat} {p fk cn ln en ax nu wr sv sp ss : Int} {cu : Nat → Int} (hM : h m = some (.inl (11, mOb m p (s : Int) fk (z : Int) (c : Int) cn ln en ax nu wr sv sp ss))) (c0 : h (m + 3) = some (.inr (.inl (0, 81, cu)))) (hw : n0 ≤ m) (hQ : ∀ (cu' : Nat → Int) (h' : zHp), (∀ i, i < 81 → cu' i = 0) → h' (m + 3) = some (.inr (.inl (0, 81, cu'))) → (∀ q : Nat, q ≠ (m + 3) → h' q = h q) → Q none n k h') : ∀ (d : Nat) (j : Nat) (u : Nat → Int), 81 - j = d → ∀ h1 : zHp, h1 (m + 3) = some (.inr (.inl (0, 81, u))) → (∀ q : Nat, q ≠ (m + 3) → h1 q = h q) → (j ≤ 81) → (∀ i, i < j → u i = 0) → ZT n0 g mX10_clearCurrent 2 [some (.inr (some m)), some (.inl (j : Int))] [] n k h1 Q := by
  intro d
  induction d using Nat.strongRecOn with | _ d ih => ?_
  intro j u hd0 h1 m1 hfr hj hu
  subst hd0
  refine T_iload_n dX10_clearCurrent_2 rfl ?_
  refine T_bipush dX10_clearCurrent_3 (by decide) ?_
  refine T_icmp_ge dX10_clearCurrent_5 (t := 21) rfl (fun c5 => ?_) (fun c5 => ?_)
  · refine T_vret dX10_clearCurrent_21 rfl ?_
    exact hQ _ _ (fun i hi => hu i (by omega)) m1 (fun q q0 => ((hfr _ q0).trans rfl))
  · refine T_aload_n dX10_clearCurrent_8 rfl ?_
    refine T_getfield dX10_clearCurrent_9 zkf_11_20 ((hfr _ (by omega)).trans hM) rfl ?_
    refine T_iload_n dX10_clearCurrent_12 rfl ?_
    refine T_iconst dX10_clearCurrent_13 (by decide) ?_
    refine T_iastoreN (m := j) dX10_clearCurrent_14 m1 rfl (by omega) (by omega) ?_
    refine T_iinc dX10_clearCurrent_15 rfl ⟨by omega, by omega⟩ ?_
    refine T_goto dX10_clearCurrent_18 (t := 2) rfl ?_
    exact ih _ (by omega) (j + 1) _ rfl _ zup_self (fun q q0 => ((zup_nf q0).trans ((hfr _ q0).trans rfl))) (by omega) (fun i hi => by
          by_cases e : i = j
          · rw [e, zfu_self]
          · rw [zfu_ne e]; exact hu i (by omega)) 
set_option maxHeartbeats 4000000 in
set_option maxRecDepth 100000 in
theorem m_X10_clearCurrent {n0 n k : Nat} {g : Nat → zV} {h : zHp} {Q : Option zV → Nat → Nat → zHp → Prop} {m s z c : Nat} {p fk cn ln en ax nu wr sv sp ss : Int} {cu : Nat → Int} (hM : h m = some (.inl (11, mOb m p (s : Int) fk (z : Int) (c : Int) cn ln en ax nu wr sv sp ss))) (c0 : h (m + 3) = some (.inr (.inl (0, 81, cu)))) (hw : n0 ≤ m) (hQ : ∀ (cu' : Nat → Int) (h' : zHp), (∀ i, i < 81 → cu' i = 0) → h' (m + 3) = some (.inr (.inl (0, 81, cu'))) → (∀ q : Nat, q ≠ (m + 3) → h' q = h q) → Q none n k h') : ZT n0 g mX10_clearCurrent 0 (zloc mX10_clearCurrent [.inr (some m)]) [] n k h Q := by
  show ZT n0 g mX10_clearCurrent 0 [some (.inr (some m)), none] [] n k h Q
  refine T_iconst dX10_clearCurrent_0 (by decide) ?_
  refine T_istore_n dX10_clearCurrent_1 (Nat.le_of_ble_eq_true rfl) ?_
  exact m_X10_clearCurrent_2 hM c0 hw hQ _ 0 cu rfl _ c0 (fun q q0 => rfl) (by omega) (fun i hi => absurd hi (Nat.not_lt_zero i)) 
