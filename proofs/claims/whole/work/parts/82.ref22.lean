/-! ===== the reference: the writing of a polynomial: printed by wip/whole/gen/s_ref22.py ===== -/
def zpls (O : tT) : tT := if 0 < O.1 then zput O 43 else O
theorem zpls_le {O : tT} (h : ovf O) : ovf (zpls O) ∧ O.1 ≤ (zpls O).1 ∧ (zpls O).1 ≤ O.1 + 1 := by
  unfold zpls
  split
  · exact ⟨h.put (by decide), by show O.1 ≤ O.1 + 1; omega, by show O.1 + 1 ≤ O.1 + 1; omega⟩
  · exact ⟨h, Nat.le_refl _, by omega⟩
set_option maxHeartbeats 4000000 in
set_option maxRecDepth 100000 in
theorem m_X10_write {n0 n k : Nat} {g : Nat → zV} {h : zHp} {Q : Option zV → Nat → Nat → zHp → Prop} {m s z c : Nat} {p fk cn ln en ax nu sv sp ss : Int} {O : tT} {oby : Nat → Int} {x : Int} (hM : h m = some (.inl (11, mOb m p (s : Int) fk (z : Int) (c : Int) cn ln en ax nu (O.1 : Int) sv sp ss))) (o5 : h (m + 25) = some (.inr (.inl (0, 120, oby)))) (hb : ∀ i, i < (O).1 → oby i = (O).2 i) (hl : O.1 < 120) (hw : n0 ≤ m) (hQ : ∀ (oby' : Nat → Int) (h' : zHp), (∀ i, i < (zput O x).1 → oby' i = (zput O x).2 i) → h' m = some (.inl (11, mOb m p (s : Int) fk (z : Int) (c : Int) cn ln en ax nu ((zput O x).1 : Int) sv sp ss)) → h' (m + 25) = some (.inr (.inl (0, 120, oby'))) → (∀ q : Nat, q ≠ m → q ≠ (m + 25) → h' q = h q) → Q none n k h') : ZT n0 g mX10_write 0 (zloc mX10_write [.inr (some m), .inl x]) [] n k h Q := by
  show ZT n0 g mX10_write 0 [some (.inr (some m)), some (.inl x)] [] n k h Q
  refine T_aload_n dX10_write_0 rfl ?_
  refine T_getfield dX10_write_1 zkf_11_87 hM rfl ?_
  refine T_aload_n dX10_write_4 rfl ?_
  refine T_getfield dX10_write_5 zkf_11_281 hM rfl ?_
  refine T_iload_n dX10_write_8 rfl ?_
  refine T_iastoreN (m := O.1) dX10_write_9 o5 rfl (by omega) (by omega) ?_
  refine T_aload_n dX10_write_10 rfl ?_
  refine T_dup dX10_write_11 ?_
  refine T_getfield dX10_write_12 zkf_11_281 (zup_ne (by omega) hM) rfl ?_
  refine T_iconst dX10_write_15 (by decide) ?_
  refine T_iadd dX10_write_16 ⟨by omega, by omega⟩ ?_
  refine T_putfield dX10_write_17 zkf_11_281 (zup_ne (by omega) hM) (Nat.le_of_ble_eq_true rfl) (by omega) rfl (fun hf => absurd hf (by decide)) rfl ?_
  refine T_vret dX10_write_20 rfl ?_
  exact hQ _ _ (fun i hi => by
    have hi : i < O.1 + 1 := hi
    by_cases e9 : i = O.1
    · rw [e9]; exact zfu_self.trans zfu_self.symm
    · exact (zfu_ne e9).trans ((hb i (by omega)).trans (zfu_ne e9).symm)) zup_self (zup_ne (by omega) zup_self) (fun q q1 q2 => ((zup_nf (by omega)).trans (((zup_nf (by omega)).trans (rfl)))))
set_option maxHeartbeats 4000000 in
set_option maxRecDepth 100000 in
theorem m_X10_writeTerm {n0 n k : Nat} {g : Nat → zV} {h : zHp} {Q : Option zV → Nat → Nat → zHp → Prop} {m s z c : Nat} {p fk cn ln en ax nu sv sp ss : Int} {O : tT} {oby : Nat → Int} {x q : Nat} (hM : h m = some (.inl (11, mOb m p (s : Int) fk (z : Int) (c : Int) cn ln en ax nu (O.1 : Int) sv sp ss))) (o5 : h (m + 25) = some (.inr (.inl (0, 120, oby)))) (hb : ∀ i, i < (O).1 → oby i = (O).2 i) (hl : O.1 ≤ 100 ∧ ovf O) (hx : x ≤ 99 ∧ q < 81) (hw : n0 ≤ m) (hQ : ∀ (oby' : Nat → Int) (h' : zHp), (∀ i, i < (zterm (zpls O) (x : Int) q).1 → oby' i = (zterm (zpls O) (x : Int) q).2 i) → h' m = some (.inl (11, mOb m p (s : Int) fk (z : Int) (c : Int) cn ln en ax nu ((zterm (zpls O) (x : Int) q).1 : Int) sv sp ss)) → h' (m + 25) = some (.inr (.inl (0, 120, oby'))) → (∀ q : Nat, q ≠ m → q ≠ (m + 25) → h' q = h q) → Q none n k h') : ZT n0 g mX10_writeTerm 0 (zloc mX10_writeTerm [.inr (some m), .inl (x : Int), .inl (q : Int)]) [] n k h Q := by
  show ZT n0 g mX10_writeTerm 0 [some (.inr (some m)), some (.inl (x : Int)), some (.inl (q : Int))] [] n k h Q
  have oP := zpls_le hl.2
  have oD := zdig_le (c := (x : Int)) oP.1 (by omega)
  have oV := zvar_le (O := zdig (zpls O) (x : Int)) (b := 120) (e := q / 9) oD.1 (by decide) (by omega)
  have eP : (zput (zpls O) (48 + (x : Int) / 10)).1 = (zpls O).1 + 1 := rfl
  have eX : (zput (zdig (zpls O) (x : Int)) 120).1 = (zdig (zpls O) (x : Int)).1 + 1 := rfl
  have eY : (zput (zvar (zdig (zpls O) (x : Int)) 120 (q / 9)) 121).1 = (zvar (zdig (zpls O) (x : Int)) 120 (q / 9)).1 + 1 := rfl
  have J65 : ∀  (h2 : zHp), (h2 m = some (.inl (11, mOb m p (s : Int) fk (z : Int) (c : Int) cn ln en ax nu ((zvar (zdig (zpls O) (x : Int)) 120 (q / 9)).1 : Int) sv sp ss))) → (∃ oby2 : Nat → Int, zar h2 (m + 25) 120 oby2 ∧ ∀ i, i < (zvar (zdig (zpls O) (x : Int)) 120 (q / 9)).1 → oby2 i = (zvar (zdig (zpls O) (x : Int)) 120 (q / 9)).2 i) → (∀ y : Nat, y ≠ m → y ≠ m + 25 → h2 y = h y) → ZT n0 g mX10_writeTerm 65 [some (.inr (some m)), some (.inl (x : Int)), some (.inl (q : Int))] [] n k h2 Q := by
    intro  h2 g1 g2 jf
    obtain ⟨oby2, g5, g6⟩ := g2
    refine T_iload_n dX10_writeTerm_65 rfl ?_
    refine T_bipush dX10_writeTerm_66 (by decide) ?_
    refine T_iremN dX10_writeTerm_68 ⟨by omega, by omega⟩ (by omega) ?_
    refine T_if_le dX10_writeTerm_69 (t := 89) rfl (fun c69 => ?_) (fun c69 => ?_)
    · refine T_vret dX10_writeTerm_89 rfl ?_
      have ez : zterm (zpls O) (x : Int) q = zvar (zdig (zpls O) (x : Int)) 120 (q / 9) := if_neg (by omega)
      rw [ez] at hQ
      exact hQ _ _ g6 g1 g5 jf
    · refine T_aload_n dX10_writeTerm_72 rfl ?_
      refine T_bipush dX10_writeTerm_73 (by decide) ?_
      refine T_callV dX10_writeTerm_75 zkm_11_284 (Or.inl rfl) rfl g1 ⟨Nat.le_of_ble_eq_true rfl, rfl⟩ rfl (Nat.le_of_ble_eq_true rfl) ?_
      refine m_X10_write (O := zvar (zdig (zpls O) (x : Int)) 120 (q / 9)) g1 g5 g6 (by omega) (by omega) (fun oby'75 hh75 k75a f75a f75b fr75 => ?_)
      refine T_aload_n dX10_writeTerm_78 rfl ?_
      refine T_bipush dX10_writeTerm_79 (by decide) ?_
      refine T_iload_n dX10_writeTerm_81 rfl ?_
      refine T_bipush dX10_writeTerm_82 (by decide) ?_
      refine T_iremN dX10_writeTerm_84 ⟨by omega, by omega⟩ (by omega) ?_
      refine T_iadd dX10_writeTerm_85 ⟨by omega, by omega⟩ ?_
      refine T_callV dX10_writeTerm_86 zkm_11_284 (Or.inl rfl) rfl f75a ⟨Nat.le_of_ble_eq_true rfl, rfl⟩ rfl (Nat.le_of_ble_eq_true rfl) ?_
      refine m_X10_write (O := zput (zvar (zdig (zpls O) (x : Int)) 120 (q / 9)) 121) f75a f75b k75a (by omega) (by omega) (fun oby'86 hh86 k86a f86a f86b fr86 => ?_)
      refine T_vret dX10_writeTerm_89 rfl ?_
      have ez : zterm (zpls O) (x : Int) q = zput (zput (zvar (zdig (zpls O) (x : Int)) 120 (q / 9)) 121) (48 + ((q % 9 : Nat) : Int)) := if_pos (by omega)
      rw [ez] at hQ
      exact hQ _ _ k86a f86a f86b (fun y q1 q2 => ((fr86 _ (by omega) (by omega)).trans (((fr75 _ (by omega) (by omega)).trans (jf y q1 q2)))))
  have J30 : ∀  (h2 : zHp), (h2 m = some (.inl (11, mOb m p (s : Int) fk (z : Int) (c : Int) cn ln en ax nu (((if 9 < (x : Int) then zput (zpls O) (48 + (x : Int) / 10) else zpls O)).1 : Int) sv sp ss))) → (∃ oby2 : Nat → Int, zar h2 (m + 25) 120 oby2 ∧ ∀ i, i < ((if 9 < (x : Int) then zput (zpls O) (48 + (x : Int) / 10) else zpls O)).1 → oby2 i = ((if 9 < (x : Int) then zput (zpls O) (48 + (x : Int) / 10) else zpls O)).2 i) → (∀ y : Nat, y ≠ m → y ≠ m + 25 → h2 y = h y) → ZT n0 g mX10_writeTerm 30 [some (.inr (some m)), some (.inl (x : Int)), some (.inl (q : Int))] [] n k h2 Q := by
    intro  h2 g1 g2 jf
    obtain ⟨oby2, g5, g6⟩ := g2
    refine T_aload_n dX10_writeTerm_30 rfl ?_
    refine T_bipush dX10_writeTerm_31 (by decide) ?_
    refine T_iload_n dX10_writeTerm_33 rfl ?_
    refine T_bipush dX10_writeTerm_34 (by decide) ?_
    refine T_iremN dX10_writeTerm_36 ⟨by omega, by omega⟩ (by omega) ?_
    refine T_iadd dX10_writeTerm_37 ⟨by omega, by omega⟩ ?_
    refine T_callV dX10_writeTerm_38 zkm_11_284 (Or.inl rfl) rfl g1 ⟨Nat.le_of_ble_eq_true rfl, rfl⟩ rfl (Nat.le_of_ble_eq_true rfl) ?_
    refine m_X10_write (O := (if 9 < (x : Int) then zput (zpls O) (48 + (x : Int) / 10) else zpls O)) g1 g5 g6 (by split <;> omega) (by omega) (fun oby'38 hh38 k38a f38a f38b fr38 => ?_)
    have eD : zput (if 9 < (x : Int) then zput (zpls O) (48 + (x : Int) / 10) else zpls O) (48 + (x : Int) % 10) = zdig (zpls O) (x : Int) := by
      unfold zdig
      split <;> rfl
    rw [eD] at f38a k38a
    refine T_iload_n dX10_writeTerm_41 rfl ?_
    refine T_bipush dX10_writeTerm_42 (by decide) ?_
    refine T_idivN dX10_writeTerm_44 ⟨by omega, by omega⟩ (by omega) ?_
    refine T_if_le dX10_writeTerm_45 (t := 65) rfl (fun c45 => ?_) (fun c45 => ?_)
    · exact J65  _ (by rw [show zvar (zdig (zpls O) (x : Int)) 120 (q / 9) = zdig (zpls O) (x : Int) from if_neg (by omega)]; exact f38a) ⟨_, f38b, by rw [show zvar (zdig (zpls O) (x : Int)) 120 (q / 9) = zdig (zpls O) (x : Int) from if_neg (by omega)]; exact k38a⟩ (fun y q1 q2 => ((fr38 _ (by omega) (by omega)).trans (jf y q1 q2))) 
    · refine T_aload_n dX10_writeTerm_48 rfl ?_
      refine T_bipush dX10_writeTerm_49 (by decide) ?_
      refine T_callV dX10_writeTerm_51 zkm_11_284 (Or.inl rfl) rfl f38a ⟨Nat.le_of_ble_eq_true rfl, rfl⟩ rfl (Nat.le_of_ble_eq_true rfl) ?_
      refine m_X10_write (O := zdig (zpls O) (x : Int)) f38a f38b k38a (by omega) (by omega) (fun oby'51 hh51 k51a f51a f51b fr51 => ?_)
      refine T_aload_n dX10_writeTerm_54 rfl ?_
      refine T_bipush dX10_writeTerm_55 (by decide) ?_
      refine T_iload_n dX10_writeTerm_57 rfl ?_
      refine T_bipush dX10_writeTerm_58 (by decide) ?_
      refine T_idivN dX10_writeTerm_60 ⟨by omega, by omega⟩ (by omega) ?_
      refine T_iadd dX10_writeTerm_61 ⟨by omega, by omega⟩ ?_
      refine T_callV dX10_writeTerm_62 zkm_11_284 (Or.inl rfl) rfl f51a ⟨Nat.le_of_ble_eq_true rfl, rfl⟩ rfl (Nat.le_of_ble_eq_true rfl) ?_
      refine m_X10_write (O := zput (zdig (zpls O) (x : Int)) 120) f51a f51b k51a (by omega) (by omega) (fun oby'62 hh62 k62a f62a f62b fr62 => ?_)
      exact J65  _ (by rw [show zvar (zdig (zpls O) (x : Int)) 120 (q / 9) = zput (zput (zdig (zpls O) (x : Int)) 120) (48 + ((q / 9 : Nat) : Int)) from if_pos (by omega)]; exact f62a) ⟨_, f62b, by rw [show zvar (zdig (zpls O) (x : Int)) 120 (q / 9) = zput (zput (zdig (zpls O) (x : Int)) 120) (48 + ((q / 9 : Nat) : Int)) from if_pos (by omega)]; exact k62a⟩ (fun y q1 q2 => ((fr62 _ (by omega) (by omega)).trans (((fr51 _ (by omega) (by omega)).trans (((fr38 _ (by omega) (by omega)).trans (jf y q1 q2))))))) 
  have J13 : ∀  (h2 : zHp), (h2 m = some (.inl (11, mOb m p (s : Int) fk (z : Int) (c : Int) cn ln en ax nu ((zpls O).1 : Int) sv sp ss))) → (∃ oby2 : Nat → Int, zar h2 (m + 25) 120 oby2 ∧ ∀ i, i < (zpls O).1 → oby2 i = (zpls O).2 i) → (∀ y : Nat, y ≠ m → y ≠ m + 25 → h2 y = h y) → ZT n0 g mX10_writeTerm 13 [some (.inr (some m)), some (.inl (x : Int)), some (.inl (q : Int))] [] n k h2 Q := by
    intro  h2 g1 g2 jf
    obtain ⟨oby2, g5, g6⟩ := g2
    refine T_iload_n dX10_writeTerm_13 rfl ?_
    refine T_bipush dX10_writeTerm_14 (by decide) ?_
    refine T_icmp_le dX10_writeTerm_16 (t := 30) rfl (fun c16 => ?_) (fun c16 => ?_)
    · exact J30  _ (by rw [if_neg (by omega)]; exact g1) ⟨_, g5, by rw [if_neg (by omega)]; exact g6⟩ (fun y q1 q2 => jf y q1 q2) 
    · refine T_aload_n dX10_writeTerm_19 rfl ?_
      refine T_bipush dX10_writeTerm_20 (by decide) ?_
      refine T_iload_n dX10_writeTerm_22 rfl ?_
      refine T_bipush dX10_writeTerm_23 (by decide) ?_
      refine T_idivN dX10_writeTerm_25 ⟨by omega, by omega⟩ (by omega) ?_
      refine T_iadd dX10_writeTerm_26 ⟨by omega, by omega⟩ ?_
      refine T_callV dX10_writeTerm_27 zkm_11_284 (Or.inl rfl) rfl g1 ⟨Nat.le_of_ble_eq_true rfl, rfl⟩ rfl (Nat.le_of_ble_eq_true rfl) ?_
      refine m_X10_write (O := zpls O) g1 g5 g6 (by omega) (by omega) (fun oby'27 hh27 k27a f27a f27b fr27 => ?_)
      exact J30  _ (by rw [if_pos (by omega)]; exact f27a) ⟨_, f27b, by rw [if_pos (by omega)]; exact k27a⟩ (fun y q1 q2 => ((fr27 _ (by omega) (by omega)).trans (jf y q1 q2))) 
  refine T_aload_n dX10_writeTerm_0 rfl ?_
  refine T_getfield dX10_writeTerm_1 zkf_11_281 hM rfl ?_
  refine T_if_le dX10_writeTerm_4 (t := 13) rfl (fun c4 => ?_) (fun c4 => ?_)
  · exact J13  _ (by rw [show zpls O = O from if_neg (by omega)]; exact hM) ⟨_, o5, by rw [show zpls O = O from if_neg (by omega)]; exact hb⟩ (fun y q1 q2 => rfl) 
  · refine T_aload_n dX10_writeTerm_7 rfl ?_
    refine T_bipush dX10_writeTerm_8 (by decide) ?_
    refine T_callV dX10_writeTerm_10 zkm_11_284 (Or.inl rfl) rfl hM ⟨Nat.le_of_ble_eq_true rfl, rfl⟩ rfl (Nat.le_of_ble_eq_true rfl) ?_
    refine m_X10_write (O := O) hM o5 hb (by omega) (by omega) (fun oby'10 hh10 k10a f10a f10b fr10 => ?_)
    exact J13  _ (by rw [show zpls O = zput O 43 from if_pos (by omega)]; exact f10a) ⟨_, f10b, by rw [show zpls O = zput O 43 from if_pos (by omega)]; exact k10a⟩ (fun y q1 q2 => ((fr10 _ (by omega) (by omega)).trans (rfl))) 
set_option maxHeartbeats 4000000 in
set_option maxRecDepth 100000 in
theorem m_X10_format_44 {n0 n k : Nat} {g : Nat → zV} {h : zHp} {Q : Option zV → Nat → Nat → zHp → Prop} {m : Nat} {P : pT} {L : lT} {I O : tT} {V : Int × pT} {i x : Int} (hP : pwf P) (hL : lwf L) (hI : iwf I) (hO : owf O) (hV : vwf V) (hB : n0 ≤ m) (hrf : rfAt h m P L I O V) (hfo : (s_fm P O i x).2.1 ≤ 90) (hQ : ∀  (h' : zHp), (rfAt h' m P L I (s_fm P O i x).2 V) → (∀ q : Nat, (q < m ∨ m + 33 ≤ q) → h' q = h q) → Q (some (.inl ((s_fm P O i x).1))) n k h') : ∀ (d : Nat) (h9 : zHp) (j : Nat) (b : Nat) (t : Nat) (z : Nat) (c : Nat) (en : Int) (ax : Int) (nu : Int) (sp : Int) (ss : Int), 81 - t = d → ∀ h1 : zHp, (h1 m = some (.inl (11, mOb m P.1 (P.2.1 : Int) 1 (z : Int) (c : Int) ((pN P) : Int) (I.1 : Int) en ax nu ((zfmt ((pB P j).2.2.2 b) ((pB P j).2.2.1 b) (zterm oNil 1 ((pB P j).2.2.1 b)) t).1 : Int) V.1 sp ss))) → (∃ oby2 : Nat → Int, zar h1 (m + 25) 120 oby2 ∧ ∀ i, i < (zfmt ((pB P j).2.2.2 b) ((pB P j).2.2.1 b) (zterm oNil 1 ((pB P j).2.2.1 b)) t).1 → oby2 i = (zfmt ((pB P j).2.2.2 b) ((pB P j).2.2.1 b) (zterm oNil 1 ((pB P j).2.2.1 b)) t).2 i) → (∀ q : Nat, q ≠ m → q ≠ m + 25 → h1 q = h9 q) → (rfO 1 z c (pN P : Int) en ax nu sp ss h9 m P L I O V) → (∀ q : Nat, (q < m ∨ m + 33 ≤ q) → h9 q = h q) → (j < pN P ∧ b < (pB P j).2.1) → (t ≤ 81) → (s_fm P O i x = (((zfmt ((pB P j).2.2.2 b) ((pB P j).2.2.1 b) (zterm oNil 1 ((pB P j).2.2.1 b)) 81).1 : Int), zfmt ((pB P j).2.2.2 b) ((pB P j).2.2.1 b) (zterm oNil 1 ((pB P j).2.2.1 b)) 81)) → ZT n0 g mX10_format 44 [some (.inr (some m)), some (.inl (j : Int)), some (.inl (b : Int)), some (.inl (((pB P j).2.2.1 b) : Int)), some (.inl (80 - (t : Int)))] [] n k h1 Q := by
  intro d
  induction d using Nat.strongRecOn with | _ d ih => ?_
  intro h9 j b t z c en ax nu sp ss hd0 h1 g1 g2 jfr hop pf9 hjd ht hfm
  subst hd0
  obtain ⟨hM, rp, rc, rk, rf, ry, ri, ro, rl, rv⟩ := id hop
  have hpb := hP.bd
  obtain ⟨tp, bt, sz, ch, cc, cl, ftp, fbt, fsz, fch, fcc, fcl, fkn⟩ := id rf
  obtain ⟨-, -, krf⟩ := fkn.resolve_left (by decide)
  obtain ⟨hj, hd⟩ := hjd
  have hNi := pN_is hP
  have hN1 := hNi.1
  have hN23 := hNi.2.1
  obtain ⟨r0, r1, r2, r3, r4⟩ := krf j hj
  have dB := pB_facts hP j
  have cF := pB_cells hP j hd
  have cm81 := dB.2.2 b hd
  obtain ⟨oby2, g5, g6⟩ := g2
  have oT := zterm_le (O := oNil) (c := 1) (m := (pB P j).2.2.1 b) (fun i hi => absurd hi (Nat.not_lt_zero i)) (by decide) cm81
  have mono := zfmt_mono (C := (pB P j).2.2.2 b) (cm := (pB P j).2.2.1 b) oT.1 (fun q => by have := cF.2 q; omega)
  have oN1 : oNil.1 = 0 := rfl
  have hl9 : (zfmt ((pB P j).2.2.2 b) ((pB P j).2.2.1 b) (zterm oNil 1 ((pB P j).2.2.1 b)) t).1 ≤ 90 := by
    have a := (mono t).2 (81 - t)
    rw [show t + (81 - t) = 81 by omega] at a
    rw [hfm] at hfo
    exact Nat.le_trans a hfo
  have hl1 : (zterm oNil 1 ((pB P j).2.2.1 b)).1 ≤ (zfmt ((pB P j).2.2.2 b) ((pB P j).2.2.1 b) (zterm oNil 1 ((pB P j).2.2.1 b)) t).1 := by
    have a := (mono 0).2 t
    rw [Nat.zero_add] at a
    exact a
  refine T_iload dX10_format_44 rfl ?_
  refine T_if_lt dX10_format_46 (t := 86) rfl (fun c46 => ?_) (fun c46 => ?_)
  · refine T_aload_n dX10_format_86 rfl ?_
    refine T_getfield dX10_format_87 zkf_11_281 g1 rfl ?_
    refine T_iret dX10_format_90 rfl ?_
    have et : t = 81 := by omega
    subst et
    rw [hfm] at hQ
    exact hQ _ ⟨1, z, c, _, en, ax, nu, sp, ss, g1, (rp.frame (fun q a1 a2 => ((jfr _ (by omega) (by omega)).trans (rfl)))), (rc.frame (fun q a1 a2 => ((jfr _ (by omega) (by omega)).trans (rfl)))), (rk.frame (fun q a1 a2 => ((jfr _ (by omega) (by omega)).trans (rfl)))), (rf.frame (fun q a1 a2 => ((jfr _ (by omega) (by omega)).trans (rfl)))), (ry.frame (fun q a1 a2 => ((jfr _ (by omega) (by omega)).trans (rfl)))), (ri.frame (fun q a1 a2 => ((jfr _ (by omega) (by omega)).trans (rfl)))), ⟨_, g5, g6⟩, (rl.frame (fun q a1 a2 => ((jfr _ (by omega) (by omega)).trans (rfl)))), (rv.frame (fun q a1 a2 => ((jfr _ (by omega) (by omega)).trans (rfl))))⟩ (fun q a1 => (jfr q (by omega) (by omega)).trans (pf9 q a1))
  · rw [show (80 - (t : Int)) = ((80 - t : Nat) : Int) by omega]
    have eC := (r2 b hd).2 (80 - t) (by omega)
    refine T_iload dX10_format_49 rfl ?_
    refine T_iload_n dX10_format_51 rfl ?_
    refine T_icmp_eq dX10_format_52 (t := 80) rfl (fun c52 => ?_) (fun c52 => ?_)
    · refine T_iinc dX10_format_80 rfl ⟨by omega, by omega⟩ ?_
      refine T_goto dX10_format_83 (t := 44) rfl ?_
      rw [show (((80 - t : Nat) : Int) + (-1)) = 80 - ((t + 1 : Nat) : Int) by omega]
      exact ih _ (by omega) h9 j b (t + 1) z c en ax nu sp ss rfl _ (by rw [(show zfmt ((pB P j).2.2.2 b) ((pB P j).2.2.1 b) (zterm oNil 1 ((pB P j).2.2.1 b)) (t + 1) = zfmt ((pB P j).2.2.2 b) ((pB P j).2.2.1 b) (zterm oNil 1 ((pB P j).2.2.1 b)) t by rw [zfmt, if_neg (by omega)])]; exact g1) (by rw [(show zfmt ((pB P j).2.2.2 b) ((pB P j).2.2.1 b) (zterm oNil 1 ((pB P j).2.2.1 b)) (t + 1) = zfmt ((pB P j).2.2.2 b) ((pB P j).2.2.1 b) (zterm oNil 1 ((pB P j).2.2.1 b)) t by rw [zfmt, if_neg (by omega)])]; exact ⟨_, g5, g6⟩) (fun q q1 q2 => ((jfr _ (by omega) (by omega)).trans (rfl))) hop pf9 ⟨hj, hd⟩ (by omega) hfm 
    · refine T_aload_n dX10_format_55 rfl ?_
      refine T_iload_n dX10_format_56 rfl ?_
      refine T_iload_n dX10_format_57 rfl ?_
      refine T_iload dX10_format_58 rfl ?_
      refine T_callV dX10_format_60 zkm_11_213 (Or.inl rfl) rfl g1 ⟨Nat.le_of_ble_eq_true rfl, rfl⟩ rfl (Nat.le_of_ble_eq_true rfl) ?_
      refine cc_cell (x := (80 - t)) g1 ((jfr _ (by omega) (by omega)).trans fcl) (by omega) ?_
      rw [eC]
      refine T_if_eq dX10_format_63 (t := 80) rfl (fun c63 => ?_) (fun c63 => ?_)
      · refine T_iinc dX10_format_80 rfl ⟨by omega, by omega⟩ ?_
        refine T_goto dX10_format_83 (t := 44) rfl ?_
        rw [show (((80 - t : Nat) : Int) + (-1)) = 80 - ((t + 1 : Nat) : Int) by omega]
        exact ih _ (by omega) h9 j b (t + 1) z c en ax nu sp ss rfl _ (by rw [(show zfmt ((pB P j).2.2.2 b) ((pB P j).2.2.1 b) (zterm oNil 1 ((pB P j).2.2.1 b)) (t + 1) = zfmt ((pB P j).2.2.2 b) ((pB P j).2.2.1 b) (zterm oNil 1 ((pB P j).2.2.1 b)) t by rw [zfmt, if_neg (by omega)])]; exact g1) (by rw [(show zfmt ((pB P j).2.2.2 b) ((pB P j).2.2.1 b) (zterm oNil 1 ((pB P j).2.2.1 b)) (t + 1) = zfmt ((pB P j).2.2.2 b) ((pB P j).2.2.1 b) (zterm oNil 1 ((pB P j).2.2.1 b)) t by rw [zfmt, if_neg (by omega)])]; exact ⟨_, g5, g6⟩) (fun q q1 q2 => ((jfr _ (by omega) (by omega)).trans (rfl))) hop pf9 ⟨hj, hd⟩ (by omega) hfm 
      · refine T_aload_n dX10_format_66 rfl ?_
        refine T_aload_n dX10_format_67 rfl ?_
        refine T_iload_n dX10_format_68 rfl ?_
        refine T_iload_n dX10_format_69 rfl ?_
        refine T_iload dX10_format_70 rfl ?_
        refine T_callV dX10_format_72 zkm_11_213 (Or.inl rfl) rfl g1 ⟨Nat.le_of_ble_eq_true rfl, rfl⟩ rfl (Nat.le_of_ble_eq_true rfl) ?_
        refine cc_cell (x := (80 - t)) g1 ((jfr _ (by omega) (by omega)).trans fcl) (by omega) ?_
        have cb := cF.2 (80 - t)
        obtain ⟨v9, ev9⟩ := Int.eq_ofNat_of_zero_le cb.1
        rw [eC, ev9]
        refine T_iload dX10_format_75 rfl ?_
        refine T_callV dX10_format_77 zkm_11_287 (Or.inl rfl) rfl g1 ⟨Nat.le_of_ble_eq_true rfl, rfl⟩ rfl (Nat.le_of_ble_eq_true rfl) ?_
        refine m_X10_writeTerm (q := (80 - t)) (O := zfmt ((pB P j).2.2.2 b) ((pB P j).2.2.1 b) (zterm oNil 1 ((pB P j).2.2.1 b)) t) g1 g5 g6 ⟨by omega, (mono t).1⟩ (by omega) (by omega) (fun oby'77 hh77 k77a f77a f77b fr77 => ?_)
        refine T_iinc dX10_format_80 rfl ⟨by omega, by omega⟩ ?_
        refine T_goto dX10_format_83 (t := 44) rfl ?_
        rw [show (((80 - t : Nat) : Int) + (-1)) = 80 - ((t + 1 : Nat) : Int) by omega]
        exact ih _ (by omega) h9 j b (t + 1) z c en ax nu sp ss rfl _ (by rw [(show zfmt ((pB P j).2.2.2 b) ((pB P j).2.2.1 b) (zterm oNil 1 ((pB P j).2.2.1 b)) (t + 1) = zterm (zpls (zfmt ((pB P j).2.2.2 b) ((pB P j).2.2.1 b) (zterm oNil 1 ((pB P j).2.2.1 b)) t)) (v9 : Int) (80 - t) by rw [zfmt, if_pos ⟨by omega, by omega⟩, ev9, zpls, if_pos (by omega)])]; exact f77a) (by rw [(show zfmt ((pB P j).2.2.2 b) ((pB P j).2.2.1 b) (zterm oNil 1 ((pB P j).2.2.1 b)) (t + 1) = zterm (zpls (zfmt ((pB P j).2.2.2 b) ((pB P j).2.2.1 b) (zterm oNil 1 ((pB P j).2.2.1 b)) t)) (v9 : Int) (80 - t) by rw [zfmt, if_pos ⟨by omega, by omega⟩, ev9, zpls, if_pos (by omega)])]; exact ⟨_, f77b, k77a⟩) (fun q q1 q2 => ((fr77 _ (by omega) (by omega)).trans (((jfr _ (by omega) (by omega)).trans (rfl))))) hop pf9 ⟨hj, hd⟩ (by omega) hfm 
set_option maxHeartbeats 4000000 in
set_option maxRecDepth 100000 in
theorem m_X10_format {n0 n k : Nat} {g : Nat → zV} {h : zHp} {Q : Option zV → Nat → Nat → zHp → Prop} {m : Nat} {P : pT} {L : lT} {I O : tT} {V : Int × pT} {i x : Int} (hP : pwf P) (hL : lwf L) (hI : iwf I) (hO : owf O) (hV : vwf V) (hB : n0 ≤ m) (hrf : rfAt h m P L I O V) (hfo : (s_fm P O i x).2.1 ≤ 90) (hQ : ∀  (h' : zHp), (rfAt h' m P L I (s_fm P O i x).2 V) → (∀ q : Nat, (q < m ∨ m + 33 ≤ q) → h' q = h q) → Q (some (.inl ((s_fm P O i x).1))) n k h') : ZT n0 g mX10_format 0 (zloc mX10_format [.inr (some m), .inl i, .inl x]) [] n k h Q := by
  show ZT n0 g mX10_format 0 [some (.inr (some m)), some (.inl i), some (.inl x), none, none] [] n k h Q
  obtain ⟨fk, z, c, cn, en, ax, nu, sp, ss, hM, rp, rc, rk, rf, ry, ri, ro, rl, rv⟩ := id hrf
  have hpb := hP.bd
  have hs8 := hP.2.1
  refine T_aload_n dX10_format_0 rfl ?_
  refine T_iload_n dX10_format_1 rfl ?_
  refine T_iload_n dX10_format_2 rfl ?_
  refine T_callV dX10_format_3 zkm_11_210 (Or.inl rfl) rfl hM ⟨Nat.le_of_ble_eq_true rfl, rfl⟩ rfl (Nat.le_of_ble_eq_true rfl) ?_
  refine m_X10_isBasis  hP hL hI hO hV hB hrf (fun hh3 k3a pr_3 pf_3 => ?_) (fun hh3 k3a_2 pr_3_2 pf_3_2 => ?_)
  · obtain ⟨z, c, cn, en, ax, nu, sp, ss, hM, rp, rc, rk, rf, ry, ri, ro, rl, rv⟩ := id pr_3
    have hpb := hP.bd
    have hs8 := hP.2.1
    obtain ⟨tp, bt, sz, ch, cc, cl, ftp, fbt, fsz, fch, fcc, fcl, fkn⟩ := id rf
    obtain ⟨-, rfl, krf⟩ := fkn.resolve_left (by decide)
    have hNi := pN_is hP
    have hN1 := hNi.1
    have hN23 := hNi.2.1
    obtain ⟨oby, q0, q1⟩ := id ro
    obtain ⟨d, rfl⟩ := Int.eq_ofNat_of_zero_le k3a.2.1
    obtain ⟨j, rfl⟩ := Int.eq_ofNat_of_zero_le k3a.1.1
    have hj : j < pN P := by have := k3a.1.2; omega
    have hd : d < (pB P j).2.1 := by have q := k3a.2.2; rw [Int.toNat_natCast] at q; omega
    obtain ⟨r0, r1, r2, r3, r4⟩ := krf j hj
    have dB := pB_facts hP j
    have cF := pB_cells hP j hd
    have cm81 := dB.2.2 d hd
    have oT := zterm_le (O := oNil) (c := 1) (m := (pB P j).2.2.1 d) (fun i hi => absurd hi (Nat.not_lt_zero i)) (by decide) cm81
    have oN1 : oNil.1 = 0 := rfl
    refine T_if_ne dX10_format_6 (t := 11) rfl (fun _ => ?_) (fun hc => absurd hc (by decide))
    refine T_aload_n dX10_format_11 rfl ?_
    refine T_getfield dX10_format_12 zkf_11_69 hM rfl ?_
    refine T_bipush dX10_format_15 (by decide) ?_
    refine T_iload_n dX10_format_17 rfl ?_
    refine T_imul dX10_format_18 ⟨by omega, by omega⟩ ?_
    refine T_iload_n dX10_format_19 rfl ?_
    refine T_iadd dX10_format_20 ⟨by omega, by omega⟩ ?_
    refine T_ialoadN (m := (9 * j + d)) dX10_format_21 fcc (by omega) (by omega) ?_
    rw [(r2 d hd).1]
    refine T_istore_n dX10_format_22 (Nat.le_of_ble_eq_true rfl) ?_
    refine T_aload_n dX10_format_23 rfl ?_
    refine T_iconst dX10_format_24 (by decide) ?_
    refine T_putfield dX10_format_25 zkf_11_281 hM (Nat.le_of_ble_eq_true rfl) (by omega) rfl (fun hf => absurd hf (by decide)) rfl ?_
    refine T_aload_n dX10_format_28 rfl ?_
    refine T_aload_n dX10_format_29 rfl ?_
    refine T_iload_n dX10_format_30 rfl ?_
    refine T_iload_n dX10_format_31 rfl ?_
    refine T_iload_n dX10_format_32 rfl ?_
    refine T_callV dX10_format_33 zkm_11_213 (Or.inl rfl) rfl zup_self ⟨Nat.le_of_ble_eq_true rfl, rfl⟩ rfl (Nat.le_of_ble_eq_true rfl) ?_
    refine cc_cell (x := ((pB P j).2.2.1 d)) zup_self (zup_ne (by omega) fcl) (by omega) ?_
    rw [(r2 d hd).2 _ cm81, cF.1]
    refine T_iload_n dX10_format_36 rfl ?_
    refine T_callV dX10_format_37 zkm_11_287 (Or.inl rfl) rfl zup_self ⟨Nat.le_of_ble_eq_true rfl, rfl⟩ rfl (Nat.le_of_ble_eq_true rfl) ?_
    refine m_X10_writeTerm (q := ((pB P j).2.2.1 d)) (O := oNil) (x := 1) zup_self (zup_ne (by omega) q0) (fun i hi => absurd hi (Nat.not_lt_zero i)) ⟨by omega, fun i hi => absurd hi (Nat.not_lt_zero i)⟩ ⟨by decide, cm81⟩ (by omega) (fun oby'37 hh37 k37a f37a f37b fr37 => ?_)
    refine T_bipush dX10_format_40 (by decide) ?_
    refine T_istore dX10_format_42 (Nat.le_of_ble_eq_true rfl) ?_
    exact m_X10_format_44 hP hL hI hO hV hB hrf hfo hQ _ hh3 j d 0 _ _ _ _ _ _ _ rfl _ f37a ⟨_, f37b, k37a⟩ (fun q q1 q2 => ((fr37 _ (by omega) (by omega)).trans (((zup_nf (by omega)).trans (rfl))))) ⟨hM, rp, rc, rk, rf, ry, ri, ro, rl, rv⟩ pf_3 ⟨hj, hd⟩ (by omega) (by unfold s_fm; rw [if_pos k3a, Int.toNat_natCast, Int.toNat_natCast]) 
  · obtain ⟨z, c, cn, en, ax, nu, sp, ss, hM, rp, rc, rk, rf, ry, ri, ro, rl, rv⟩ := id pr_3_2
    have hpb := hP.bd
    have hs8 := hP.2.1
    obtain ⟨tp, bt, sz, ch, cc, cl, ftp, fbt, fsz, fch, fcc, fcl, fkn⟩ := id rf
    obtain ⟨-, rfl, krf⟩ := fkn.resolve_left (by decide)
    have hNi := pN_is hP
    have hN1 := hNi.1
    have hN23 := hNi.2.1
    obtain ⟨oby, q0, q1⟩ := id ro
    refine T_if_ne dX10_format_6 (t := 11) rfl (fun hc => absurd hc (by decide)) (fun _ => ?_)
    refine T_iconst dX10_format_9 (by decide) ?_
    refine T_iret dX10_format_10 rfl ?_
    have e : s_fm P O i x = (-1, O) := if_neg k3a_2
    rw [e] at hQ
    exact hQ _ pr_3_2.at pf_3_2
