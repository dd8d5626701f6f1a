/-! ===== the reference: mirrored cones, degrees: printed by wip/whole/gen/s_ref18.py ===== -/
theorem zcnt_fall {f : Nat → Bool} : ∀ n, (∀ a b, a ≤ b → b < n → f b = true → f a = true) → ∀ i, i < n → (f i = true ↔ i < zcnt f n)
  | 0, _, i, hi => absurd hi (Nat.not_lt_zero i)
  | n + 1, hf, i, hi => by
    have ih := zcnt_fall n (fun a b hab hb => hf a b hab (by omega))
    have hl := zcnt_le f n
    by_cases e : f n = true
    · have h1 : ∀ a, a < n → f a = true := fun a ha => hf a n (by omega) (by omega) e
      have h2 : zcnt f n = n := by
        by_cases z : n = 0
        · subst z; rfl
        · have := (ih (n - 1) (by omega)).mp (h1 (n - 1) (by omega)); omega
      have h3 : zcnt f (n + 1) = n + 1 := by rw [zcnt, if_pos e, h2]
      rw [h3]
      refine ⟨fun _ => hi, fun _ => ?_⟩
      by_cases z : i = n
      · rw [z]; exact e
      · exact h1 i (by omega)
    · have h3 : zcnt f (n + 1) = zcnt f n := by rw [zcnt, if_neg e, Nat.add_zero]
      rw [h3]
      by_cases z : i = n
      · subst z; exact ⟨fun q => absurd q e, fun q => by omega⟩
      · exact ih i (by omega)
theorem zcnt_thr {f : Nat → Bool} {n c : Nat} (hc : c ≤ n) (h : ∀ i, i < n → (f i = true ↔ i < c)) : zcnt f n = c := by
  have h1 := zcnt_fall n (fun a b hab hb q => (h a (by omega)).mpr (by have := (h b hb).mp q; omega))
  have hl := zcnt_le f n
  by_cases a : zcnt f n < c
  · have := (h1 (zcnt f n) (by omega)).mp ((h _ (by omega)).mpr a); omega
  · by_cases b : c < zcnt f n
    · have := (h c (by omega)).mp ((h1 c (by omega)).mpr b); omega
    · omega
theorem zmir_pt {H H2 : Nat → Nat} (hH : ∀ i, i < 9 → H i ≤ 8) (hf : ∀ a b, a ≤ b → b < 9 → H2 b ≤ H2 a) : zmir H H2 = true ↔ ∀ a, a < 9 → ∀ b, b < 9 → (b < H2 a ↔ a < H b) := by
  rw [zmir_iff]
  constructor
  · intro h a ha b hb
    have h1 := zcnt_fall (f := fun i => decide (b < H2 i)) 9 (fun x y hxy hy q => by
      have := hf x y hxy hy
      have q2 : b < H2 y := of_decide_eq_true q
      exact decide_eq_true (by omega)) a ha
    rw [h b hb, ← h1]
    exact decide_eq_true_iff.symm
  · intro h y hy
    refine (zcnt_thr (by have := hH y hy; omega) (fun i hi => ?_)).symm
    rw [← h i hi y hy]
    exact decide_eq_true_iff
theorem pB_fall {P : pT} (hP : pwf P) (k : Nat) : ∀ a b, a ≤ b → b < 9 → (pB P k).1 b ≤ (pB P k).1 a := by
  have hw := zfw_bd (xs := P.2.2.1) (ys := P.2.2.2.1) hP.1 hP.2.1 k
  exact (zbas_facts (xs := P.2.2.1) (ys := P.2.2.2.1) (tie := 1) hP.1 hP.2.1 hw.1 hw.2.2.1).2.2.1
set_option maxHeartbeats 4000000 in
set_option maxRecDepth 100000 in
theorem m_X10_isMirrored_15 {n0 n k : Nat} {g : Nat → zV} {h : zHp} {Q : Option zV → Nat → Nat → zHp → Prop} {m : Nat} {P : pT} {L : lT} {I O : tT} {V : Int × pT} {j q : Nat} (hP : pwf P) (hL : lwf L) (hI : iwf I) (hO : owf O) (hV : vwf V) (hB : n0 ≤ m) (hrf : rfF 1 h m P L I O V) (hj : j < pN P) (hq : q < pN P)  : ∀ (d : Nat) (w : Int) (x : Nat) (y : Nat), 9 - y = d → (x < 9) → (y ≤ 9) → ((w = 1 ∧ (∀ a, a < x → ∀ b, b < 9 → (b < (pB P j).1 a ↔ a < (pB P q).1 b)) ∧ (∀ b, b < y → (b < (pB P j).1 x ↔ x < (pB P q).1 b))) ∨ (w = 0 ∧ ((∃ a, a < x ∧ ∃ b, b < 9 ∧ ¬ (b < (pB P j).1 a ↔ a < (pB P q).1 b)) ∨ (∃ b, b < y ∧ ¬ (b < (pB P j).1 x ↔ x < (pB P q).1 b))))) → (∀ (w : Int) (y : Nat) , ((w = 1 ∧ (∀ a, a < x + 1 → ∀ b, b < 9 → (b < (pB P j).1 a ↔ a < (pB P q).1 b))) ∨ (w = 0 ∧ (∃ a, a < x + 1 ∧ ∃ b, b < 9 ∧ ¬ (b < (pB P j).1 a ↔ a < (pB P q).1 b)))) → ZT n0 g mX10_isMirrored 85 [some (.inr (some m)), some (.inl (j : Int)), some (.inl (q : Int)), some (.inl w), some (.inl (x : Int)), some (.inl (y : Int))] [] n k h Q) → ZT n0 g mX10_isMirrored 15 [some (.inr (some m)), some (.inl (j : Int)), some (.inl (q : Int)), some (.inl w), some (.inl (x : Int)), some (.inl (y : Int))] [] n k h Q := by
  intro d
  induction d using Nat.strongRecOn with | _ d ih => ?_
  intro w x y hd0 hx hy hw kk85
  subst hd0
  obtain ⟨z, c, cn, en, ax, nu, sp, ss, hM, rp, rc, rk, rf, ry, ri, ro, rl, rv⟩ := id hrf
  have hpb := hP.bd
  have hs8 := hP.2.1
  obtain ⟨tp, bt, sz, ch, cc, cl, ftp, fbt, fsz, fch, fcc, fcl, fkn⟩ := id rf
  obtain ⟨-, rfl, krf⟩ := fkn.resolve_left (by decide)
  have hNi := pN_is hP
  have hN1 := hNi.1
  have hN23 := hNi.2.1
  obtain ⟨r0, r1, r2, r3, r4⟩ := krf j hj
  obtain ⟨t0, t1, t2, t3, t4⟩ := krf q hq
  refine T_iload dX10_isMirrored_15 rfl ?_
  refine T_bipush dX10_isMirrored_17 (by decide) ?_
  refine T_icmp_ge dX10_isMirrored_19 (t := 85) rfl (fun c19 => ?_) (fun c19 => ?_)
  · exact kk85 w y (hw.imp (fun z => ⟨z.1, fun a ha b hb => by
          by_cases e : a = x
          · subst e; exact z.2.2 b (by omega)
          · exact z.2.1 a (by omega) b hb⟩) (fun z => ⟨z.1, z.2.elim (fun ⟨a, z1, z2⟩ => ⟨a, by omega, z2⟩) (fun ⟨b, z1, z2⟩ => ⟨x, by omega, b, by omega, z2⟩)⟩))
  · refine T_iload_n dX10_isMirrored_22 rfl ?_
    refine T_if_eq dX10_isMirrored_23 (t := 77) rfl (fun c23 => ?_) (fun c23 => ?_)
    · refine T_iconst dX10_isMirrored_77 (by decide) ?_
      refine T_istore_n dX10_isMirrored_78 (Nat.le_of_ble_eq_true rfl) ?_
      refine T_iinc dX10_isMirrored_79 rfl ⟨by omega, by omega⟩ ?_
      refine T_goto dX10_isMirrored_82 (t := 15) rfl ?_
      exact ih _ (by omega) 0 x (y + 1) rfl  (by omega) (by omega) (Or.inr ⟨rfl, (hw.resolve_left (fun z => by omega)).2.imp id (fun ⟨b, z1, z2⟩ => ⟨b, by omega, z2⟩)⟩) kk85
    · refine T_iload dX10_isMirrored_26 rfl ?_
      refine T_aload_n dX10_isMirrored_28 rfl ?_
      refine T_getfield dX10_isMirrored_29 zkf_11_66 hM rfl ?_
      refine T_bipush dX10_isMirrored_32 (by decide) ?_
      refine T_iload_n dX10_isMirrored_34 rfl ?_
      refine T_imul dX10_isMirrored_35 ⟨by omega, by omega⟩ ?_
      refine T_iload dX10_isMirrored_36 rfl ?_
      refine T_iadd dX10_isMirrored_38 ⟨by omega, by omega⟩ ?_
      refine T_ialoadN (m := (9 * j + x)) dX10_isMirrored_39 fch (by omega) (by omega) ?_
      refine T_icmp_ge dX10_isMirrored_40 (t := 47) rfl (fun c40 => ?_) (fun c40 => ?_)
      · refine T_iconst dX10_isMirrored_47 (by decide) ?_
        refine T_iload dX10_isMirrored_48 rfl ?_
        refine T_aload_n dX10_isMirrored_50 rfl ?_
        refine T_getfield dX10_isMirrored_51 zkf_11_66 hM rfl ?_
        refine T_bipush dX10_isMirrored_54 (by decide) ?_
        refine T_iload_n dX10_isMirrored_56 rfl ?_
        refine T_imul dX10_isMirrored_57 ⟨by omega, by omega⟩ ?_
        refine T_iload dX10_isMirrored_58 rfl ?_
        refine T_iadd dX10_isMirrored_60 ⟨by omega, by omega⟩ ?_
        refine T_ialoadN (m := (9 * q + y)) dX10_isMirrored_61 fch (by omega) (by omega) ?_
        refine T_icmp_ge dX10_isMirrored_62 (t := 69) rfl (fun c62 => ?_) (fun c62 => ?_)
        · refine T_iconst dX10_isMirrored_69 (by decide) ?_
          refine T_icmp_ne dX10_isMirrored_70 (t := 77) rfl (fun hc => absurd hc (by decide)) (fun _ => ?_)
          refine T_iconst dX10_isMirrored_73 (by decide) ?_
          refine T_goto dX10_isMirrored_74 (t := 78) rfl ?_
          refine T_istore_n dX10_isMirrored_78 (Nat.le_of_ble_eq_true rfl) ?_
          refine T_iinc dX10_isMirrored_79 rfl ⟨by omega, by omega⟩ ?_
          refine T_goto dX10_isMirrored_82 (t := 15) rfl ?_
          exact ih _ (by omega) 1 x (y + 1) rfl  (by omega) (by omega) (Or.inl ⟨rfl, (hw.resolve_right (fun z => by omega)).2.1, fun b hb => by
                by_cases e : b = y
                · subst e; rw [r1 x (by omega)] at c40; rw [t1 b (by omega)] at c62; exact ⟨fun z => by omega, fun z => by omega⟩
                · exact (hw.resolve_right (fun z => by omega)).2.2 b (by omega)⟩) kk85
        · refine T_iconst dX10_isMirrored_65 (by decide) ?_
          refine T_goto dX10_isMirrored_66 (t := 70) rfl ?_
          refine T_icmp_ne dX10_isMirrored_70 (t := 77) rfl (fun _ => ?_) (fun hc => absurd hc (by decide))
          refine T_iconst dX10_isMirrored_77 (by decide) ?_
          refine T_istore_n dX10_isMirrored_78 (Nat.le_of_ble_eq_true rfl) ?_
          refine T_iinc dX10_isMirrored_79 rfl ⟨by omega, by omega⟩ ?_
          refine T_goto dX10_isMirrored_82 (t := 15) rfl ?_
          exact ih _ (by omega) 0 x (y + 1) rfl  (by omega) (by omega) (Or.inr ⟨rfl, Or.inr ⟨y, by omega, fun z => by rw [r1 x (by omega)] at c40; rw [t1 y (by omega)] at c62; have z1 := z.mp; have z2 := z.mpr; omega⟩⟩) kk85
      · refine T_iconst dX10_isMirrored_43 (by decide) ?_
        refine T_goto dX10_isMirrored_44 (t := 48) rfl ?_
        refine T_iload dX10_isMirrored_48 rfl ?_
        refine T_aload_n dX10_isMirrored_50 rfl ?_
        refine T_getfield dX10_isMirrored_51 zkf_11_66 hM rfl ?_
        refine T_bipush dX10_isMirrored_54 (by decide) ?_
        refine T_iload_n dX10_isMirrored_56 rfl ?_
        refine T_imul dX10_isMirrored_57 ⟨by omega, by omega⟩ ?_
        refine T_iload dX10_isMirrored_58 rfl ?_
        refine T_iadd dX10_isMirrored_60 ⟨by omega, by omega⟩ ?_
        refine T_ialoadN (m := (9 * q + y)) dX10_isMirrored_61 fch (by omega) (by omega) ?_
        refine T_icmp_ge dX10_isMirrored_62 (t := 69) rfl (fun c62 => ?_) (fun c62 => ?_)
        · refine T_iconst dX10_isMirrored_69 (by decide) ?_
          refine T_icmp_ne dX10_isMirrored_70 (t := 77) rfl (fun _ => ?_) (fun hc => absurd hc (by decide))
          refine T_iconst dX10_isMirrored_77 (by decide) ?_
          refine T_istore_n dX10_isMirrored_78 (Nat.le_of_ble_eq_true rfl) ?_
          refine T_iinc dX10_isMirrored_79 rfl ⟨by omega, by omega⟩ ?_
          refine T_goto dX10_isMirrored_82 (t := 15) rfl ?_
          exact ih _ (by omega) 0 x (y + 1) rfl  (by omega) (by omega) (Or.inr ⟨rfl, Or.inr ⟨y, by omega, fun z => by rw [r1 x (by omega)] at c40; rw [t1 y (by omega)] at c62; have z1 := z.mp; have z2 := z.mpr; omega⟩⟩) kk85
        · refine T_iconst dX10_isMirrored_65 (by decide) ?_
          refine T_goto dX10_isMirrored_66 (t := 70) rfl ?_
          refine T_icmp_ne dX10_isMirrored_70 (t := 77) rfl (fun hc => absurd hc (by decide)) (fun _ => ?_)
          refine T_iconst dX10_isMirrored_73 (by decide) ?_
          refine T_goto dX10_isMirrored_74 (t := 78) rfl ?_
          refine T_istore_n dX10_isMirrored_78 (Nat.le_of_ble_eq_true rfl) ?_
          refine T_iinc dX10_isMirrored_79 rfl ⟨by omega, by omega⟩ ?_
          refine T_goto dX10_isMirrored_82 (t := 15) rfl ?_
          exact ih _ (by omega) 1 x (y + 1) rfl  (by omega) (by omega) (Or.inl ⟨rfl, (hw.resolve_right (fun z => by omega)).2.1, fun b hb => by
                by_cases e : b = y
                · subst e; rw [r1 x (by omega)] at c40; rw [t1 b (by omega)] at c62; exact ⟨fun z => by omega, fun z => by omega⟩
                · exact (hw.resolve_right (fun z => by omega)).2.2 b (by omega)⟩) kk85
set_option maxHeartbeats 4000000 in
set_option maxRecDepth 100000 in
theorem m_X10_isMirrored_5 {n0 n k : Nat} {g : Nat → zV} {h : zHp} {Q : Option zV → Nat → Nat → zHp → Prop} {m : Nat} {P : pT} {L : lT} {I O : tT} {V : Int × pT} {j q : Nat} (hP : pwf P) (hL : lwf L) (hI : iwf I) (hO : owf O) (hV : vwf V) (hB : n0 ≤ m) (hrf : rfF 1 h m P L I O V) (hj : j < pN P) (hq : q < pN P) (hT : (zmir (pB P q).1 (pB P j).1 = true) → Q (some (.inl 1)) n k h) (hF : (zmir (pB P q).1 (pB P j).1 = false) → Q (some (.inl 0)) n k h) : ∀ (d : Nat) (w : Int) (x : Nat) (L5 : Option zV), 9 - x = d → (x ≤ 9) → ((w = 1 ∧ (∀ a, a < x → ∀ b, b < 9 → (b < (pB P j).1 a ↔ a < (pB P q).1 b))) ∨ (w = 0 ∧ (∃ a, a < x ∧ ∃ b, b < 9 ∧ ¬ (b < (pB P j).1 a ↔ a < (pB P q).1 b)))) → ZT n0 g mX10_isMirrored 5 [some (.inr (some m)), some (.inl (j : Int)), some (.inl (q : Int)), some (.inl w), some (.inl (x : Int)), L5] [] n k h Q := by
  intro d
  induction d using Nat.strongRecOn with | _ d ih => ?_
  intro w x L5 hd0 hx hw
  subst hd0
  obtain ⟨z, c, cn, en, ax, nu, sp, ss, hM, rp, rc, rk, rf, ry, ri, ro, rl, rv⟩ := id hrf
  have hpb := hP.bd
  have hs8 := hP.2.1
  obtain ⟨tp, bt, sz, ch, cc, cl, ftp, fbt, fsz, fch, fcc, fcl, fkn⟩ := id rf
  obtain ⟨-, rfl, krf⟩ := fkn.resolve_left (by decide)
  have hNi := pN_is hP
  have hN1 := hNi.1
  have hN23 := hNi.2.1
  obtain ⟨r0, r1, r2, r3, r4⟩ := krf j hj
  obtain ⟨t0, t1, t2, t3, t4⟩ := krf q hq
  refine T_iload dX10_isMirrored_5 rfl ?_
  refine T_bipush dX10_isMirrored_7 (by decide) ?_
  refine T_icmp_ge dX10_isMirrored_9 (t := 91) rfl (fun c9 => ?_) (fun c9 => ?_)
  · refine T_iload_n dX10_isMirrored_91 rfl ?_
    refine T_iret dX10_isMirrored_92 (by rcases hw with ⟨rfl, _⟩ | ⟨rfl, _⟩ <;> rfl) ?_
    have hz := zmir_pt (H := (pB P q).1) (H2 := (pB P j).1) (fun i hi => (pB_facts hP q).2.1 i hi) (pB_fall hP j)
    rcases hw with ⟨rfl, z⟩ | ⟨rfl, z⟩
    · exact hT (hz.mpr (fun a ha b hb => z a (by omega) b hb))
    · exact hF (Bool.eq_false_iff.mpr (fun z2 => by
        obtain ⟨a, ha, b, hb, h3⟩ := z
        exact h3 (hz.mp z2 a (by omega) b hb)))
  · refine T_iconst dX10_isMirrored_12 (by decide) ?_
    refine T_istore dX10_isMirrored_13 (Nat.le_of_ble_eq_true rfl) ?_
    refine m_X10_isMirrored_15 hP hL hI hO hV hB hrf hj hq _ w x 0 rfl  (by omega) (by omega) (hw.imp (fun z => ⟨z.1, z.2, fun b h => absurd h (Nat.not_lt_zero b)⟩) (fun z => ⟨z.1, Or.inl z.2⟩)) (fun w85 y85 xw_85 => ?_)
    refine T_iinc dX10_isMirrored_85 rfl ⟨by omega, by omega⟩ ?_
    refine T_goto dX10_isMirrored_88 (t := 5) rfl ?_
    exact ih _ (by omega) w85 (x + 1) _ rfl  (by omega) xw_85 
set_option maxHeartbeats 4000000 in
set_option maxRecDepth 100000 in
theorem m_X10_isMirrored {n0 n k : Nat} {g : Nat → zV} {h : zHp} {Q : Option zV → Nat → Nat → zHp → Prop} {m : Nat} {P : pT} {L : lT} {I O : tT} {V : Int × pT} {j q : Nat} (hP : pwf P) (hL : lwf L) (hI : iwf I) (hO : owf O) (hV : vwf V) (hB : n0 ≤ m) (hrf : rfF 1 h m P L I O V) (hj : j < pN P) (hq : q < pN P) (hT : (zmir (pB P q).1 (pB P j).1 = true) → Q (some (.inl 1)) n k h) (hF : (zmir (pB P q).1 (pB P j).1 = false) → Q (some (.inl 0)) n k h) : ZT n0 g mX10_isMirrored 0 (zloc mX10_isMirrored [.inr (some m), .inl (j : Int), .inl (q : Int)]) [] n k h Q := by
  show ZT n0 g mX10_isMirrored 0 [some (.inr (some m)), some (.inl (j : Int)), some (.inl (q : Int)), none, none, none] [] n k h Q
  obtain ⟨z, c, cn, en, ax, nu, sp, ss, hM, rp, rc, rk, rf, ry, ri, ro, rl, rv⟩ := id hrf
  have hpb := hP.bd
  have hs8 := hP.2.1
  obtain ⟨tp, bt, sz, ch, cc, cl, ftp, fbt, fsz, fch, fcc, fcl, fkn⟩ := id rf
  obtain ⟨-, rfl, krf⟩ := fkn.resolve_left (by decide)
  have hNi := pN_is hP
  have hN1 := hNi.1
  have hN23 := hNi.2.1
  refine T_iconst dX10_isMirrored_0 (by decide) ?_
  refine T_istore_n dX10_isMirrored_1 (Nat.le_of_ble_eq_true rfl) ?_
  refine T_iconst dX10_isMirrored_2 (by decide) ?_
  refine T_istore dX10_isMirrored_3 (Nat.le_of_ble_eq_true rfl) ?_
  exact m_X10_isMirrored_5 hP hL hI hO hV hB hrf hj hq hT hF _ 1 0 _ rfl  (by omega) (Or.inl ⟨rfl, fun a h => absurd h (Nat.not_lt_zero a)⟩) 
set_option maxHeartbeats 4000000 in
set_option maxRecDepth 100000 in
theorem m_X10_mirroredCone_12 {n0 n k : Nat} {g : Nat → zV} {h : zHp} {Q : Option zV → Nat → Nat → zHp → Prop} {m : Nat} {P : pT} {L : lT} {I O : tT} {V : Int × pT} {i : Int} (hP : pwf P) (hL : lwf L) (hI : iwf I) (hO : owf O) (hV : vwf V) (hB : n0 ≤ m) (hrf : rfAt h m P L I O V) (hQ : ∀  (h' : zHp), (rfAt h' m P L I O V) → (∀ q : Nat, (q < m ∨ m + 33 ≤ q) → h' q = h q) → Q (some (.inl (s_mir P i))) n k h') : ∀ (d : Nat) (j : Nat) (q : Nat), pN P - q = d → ∀ h1 : zHp, (rfF 1 h1 m P L I O V) → (∀ q : Nat, (q < m ∨ m + 33 ≤ q) → h1 q = h q) → (i = (j : Int) ∧ j < pN P) → (∀ y, y < q → (if zmir (pB P y).1 (pB P j).1 = true then (1 : Int) else 0) = 0) → ZT n0 g mX10_mirroredCone 12 [some (.inr (some m)), some (.inl (j : Int)), some (.inl (q : Int))] [] n k h1 Q := by
  intro d
  induction d using Nat.strongRecOn with | _ d ih => ?_
  intro j q hd0 h1 pr9 pf9 hi hn
  subst hd0
  obtain ⟨z, c, cn, en, ax, nu, sp, ss, hM, rp, rc, rk, rf, ry, ri, ro, rl, rv⟩ := id pr9
  have hpb := hP.bd
  have hs8 := hP.2.1
  obtain ⟨tp, bt, sz, ch, cc, cl, ftp, fbt, fsz, fch, fcc, fcl, fkn⟩ := id rf
  obtain ⟨-, rfl, krf⟩ := fkn.resolve_left (by decide)
  have hNi := pN_is hP
  have hN1 := hNi.1
  have hN23 := hNi.2.1
  refine T_iload_n dX10_mirroredCone_12 rfl ?_
  refine T_aload_n dX10_mirroredCone_13 rfl ?_
  refine T_getfield dX10_mirroredCone_14 zkf_11_195 hM rfl ?_
  refine T_icmp_ge dX10_mirroredCone_17 (t := 37) rfl (fun c17 => ?_) (fun c17 => ?_)
  · refine T_bipush dX10_mirroredCone_37 (by decide) ?_
    refine T_iret dX10_mirroredCone_39 rfl ?_
    obtain ⟨rfl, hj⟩ := hi
    have e : s_mir P (j : Int) = -5 := by unfold s_mir; rw [if_pos ⟨by omega, by omega⟩, Int.toNat_natCast, if_neg (show ¬ zmrf P j < pN P from zfst_end (fun y hy => hn y (by omega)))]
    rw [e] at hQ
    exact hQ _ pr9.at pf9
  · refine T_aload_n dX10_mirroredCone_20 rfl ?_
    refine T_iload_n dX10_mirroredCone_21 rfl ?_
    refine T_iload_n dX10_mirroredCone_22 rfl ?_
    refine T_callV dX10_mirroredCone_23 zkm_11_227 (Or.inl rfl) rfl hM ⟨Nat.le_of_ble_eq_true rfl, rfl⟩ rfl (Nat.le_of_ble_eq_true rfl) ?_
    refine m_X10_isMirrored  hP hL hI hO hV hB pr9 (by omega) (by omega) (fun k23a => ?_) (fun k23a_2 => ?_)
    · refine T_if_eq dX10_mirroredCone_26 (t := 31) rfl (fun hc => absurd hc (by decide)) (fun _ => ?_)
      refine T_iload_n dX10_mirroredCone_29 rfl ?_
      refine T_iret dX10_mirroredCone_30 rfl ?_
      obtain ⟨rfl, hj⟩ := hi
      have ez : zmrf P j = q := zfst_eq (by omega) (by rw [if_pos k23a]; decide) hn
      have e : s_mir P (j : Int) = (q : Int) := by unfold s_mir; rw [if_pos ⟨by omega, by omega⟩, Int.toNat_natCast, ez, if_pos (by omega)]
      rw [e] at hQ
      exact hQ _ pr9.at pf9
    · refine T_if_eq dX10_mirroredCone_26 (t := 31) rfl (fun _ => ?_) (fun hc => absurd hc (by decide))
      refine T_iinc dX10_mirroredCone_31 rfl ⟨by omega, by omega⟩ ?_
      refine T_goto dX10_mirroredCone_34 (t := 12) rfl ?_
      exact ih _ (by omega) j (q + 1) rfl _ pr9 pf9 hi (fun y hy => by
            by_cases e9 : y = q
            · rw [e9, k23a_2]; rfl
            · exact hn y (by omega)) 
set_option maxHeartbeats 4000000 in
set_option maxRecDepth 100000 in
theorem m_X10_mirroredCone {n0 n k : Nat} {g : Nat → zV} {h : zHp} {Q : Option zV → Nat → Nat → zHp → Prop} {m : Nat} {P : pT} {L : lT} {I O : tT} {V : Int × pT} {i : Int} (hP : pwf P) (hL : lwf L) (hI : iwf I) (hO : owf O) (hV : vwf V) (hB : n0 ≤ m) (hrf : rfAt h m P L I O V) (hQ : ∀  (h' : zHp), (rfAt h' m P L I O V) → (∀ q : Nat, (q < m ∨ m + 33 ≤ q) → h' q = h q) → Q (some (.inl (s_mir P i))) n k h') : ZT n0 g mX10_mirroredCone 0 (zloc mX10_mirroredCone [.inr (some m), .inl i]) [] n k h Q := by
  show ZT n0 g mX10_mirroredCone 0 [some (.inr (some m)), some (.inl i), none] [] n k h Q
  obtain ⟨fk, z, c, cn, en, ax, nu, sp, ss, hM, rp, rc, rk, rf, ry, ri, ro, rl, rv⟩ := id hrf
  have hpb := hP.bd
  have hs8 := hP.2.1
  refine T_aload_n dX10_mirroredCone_0 rfl ?_
  refine T_iload_n dX10_mirroredCone_1 rfl ?_
  refine T_callV dX10_mirroredCone_2 zkm_11_204 (Or.inl rfl) rfl hM ⟨Nat.le_of_ble_eq_true rfl, rfl⟩ rfl (Nat.le_of_ble_eq_true rfl) ?_
  refine m_X10_isCone  hP hL hI hO hV hB hrf (fun hh2 k2a pr_2 pf_2 => ?_) (fun hh2 k2a_2 pr_2_2 pf_2_2 => ?_)
  · obtain ⟨z, c, cn, en, ax, nu, sp, ss, hM, rp, rc, rk, rf, ry, ri, ro, rl, rv⟩ := id pr_2
    have hpb := hP.bd
    have hs8 := hP.2.1
    obtain ⟨tp, bt, sz, ch, cc, cl, ftp, fbt, fsz, fch, fcc, fcl, fkn⟩ := id rf
    obtain ⟨-, rfl, krf⟩ := fkn.resolve_left (by decide)
    have hNi := pN_is hP
    have hN1 := hNi.1
    have hN23 := hNi.2.1
    obtain ⟨j, rfl⟩ := Int.eq_ofNat_of_zero_le k2a.1
    have hj : j < pN P := by omega
    obtain ⟨r0, r1, r2, r3, r4⟩ := krf j hj
    have dB := pB_facts hP j
    have dW := pW_facts hP j
    refine T_if_ne dX10_mirroredCone_5 (t := 10) rfl (fun _ => ?_) (fun hc => absurd hc (by decide))
    refine T_iconst dX10_mirroredCone_10 (by decide) ?_
    refine T_istore_n dX10_mirroredCone_11 (Nat.le_of_ble_eq_true rfl) ?_
    exact m_X10_mirroredCone_12 hP hL hI hO hV hB hrf hQ _ j 0 rfl _ pr_2 pf_2 ⟨rfl, hj⟩ (fun i hi => absurd hi (Nat.not_lt_zero i)) 
  · obtain ⟨z, c, cn, en, ax, nu, sp, ss, hM, rp, rc, rk, rf, ry, ri, ro, rl, rv⟩ := id pr_2_2
    have hpb := hP.bd
    have hs8 := hP.2.1
    obtain ⟨tp, bt, sz, ch, cc, cl, ftp, fbt, fsz, fch, fcc, fcl, fkn⟩ := id rf
    obtain ⟨-, rfl, krf⟩ := fkn.resolve_left (by decide)
    have hNi := pN_is hP
    have hN1 := hNi.1
    have hN23 := hNi.2.1
    refine T_if_ne dX10_mirroredCone_5 (t := 10) rfl (fun hc => absurd hc (by decide)) (fun _ => ?_)
    refine T_iconst dX10_mirroredCone_8 (by decide) ?_
    refine T_iret dX10_mirroredCone_9 rfl ?_
    have e : s_mir P i = -1 := if_neg (by exact k2a_2)
    rw [e] at hQ
    exact hQ _ pr_2_2.at pf_2_2
