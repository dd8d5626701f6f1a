/-! ===== the law: its loop: printed by wip/whole/gen/s_law.py ===== -/
theorem zand63 (x : Int) : 0 ≤ zbit (fun a b => a &&& b) x 63 ∧ zbit (fun a b => a &&& b) x 63 ≤ 63 := by
  show 0 ≤ (Int32.ofInt x &&& Int32.ofInt 63).toInt ∧ (Int32.ofInt x &&& Int32.ofInt 63).toInt ≤ 63
  generalize Int32.ofInt x = a
  have e : (a &&& Int32.ofInt 63).toBitVec = a.toBitVec &&& 63#32 := by rw [Int32.toBitVec_and]; rfl
  have h1 : (a.toBitVec &&& 63#32).toNat ≤ 63 := by rw [BitVec.toNat_and]; exact Nat.and_le_right
  show 0 ≤ (a &&& Int32.ofInt 63).toBitVec.toInt ∧ (a &&& Int32.ofInt 63).toBitVec.toInt ≤ 63
  rw [e, BitVec.toInt_eq_toNat_of_lt (by omega)]
  omega
set_option maxHeartbeats 4000000 in
set_option maxRecDepth 100000 in
theorem law_loop {n0 : Nat} {g : Nat → zV} {Q : Option zV → Nat → Nat → zHp → Prop} {B sA len K0 : Nat} {f : Nat → Int} {r4 : Option Nat} (hg0 : g 0 = .inl 1) (hg4 : g 4 = .inr r4) (hB : n0 ≤ B) (hf : ∀ j, j < len → zR (f j)) (hlen : len ≤ 2560) (hQ : ∀ (n k : Nat) (h : zHp), n ≤ B + 959 → k ≤ K0 + 5440 → Q (some (.inl 1)) n k h) : ∀ (d i n k : Nat) (h : zHp), len + 5 - i = d → i ≤ len → lawI g h B sA len f n k K0 → ZT n0 g mL_law 18 [some (.inr (some sA)), some (.inr (some B)), some (.inr (some (B + 396))), some (.inl (i : Int))] [] n k h Q := by
  intro d
  induction d using Nat.strongRecOn with | _ d ih => ?_
  intro i n k h hd0 hil hI9
  subst hd0
  obtain ⟨P, L, I, O, V, nb, cb, vb, N, hcl, hrf, ⟨hP, hL, hI, hO, hV⟩, hcn, hpr, hdg, hs1, hs2⟩ := id hI9
  have J1531 : i + 5 ≤ len → ∀ (n' k' : Nat) (h' : zHp), lawI g h' B sA len f n' k' K0 → ZT n0 g mL_law 1531 [some (.inr (some sA)), some (.inr (some B)), some (.inr (some (B + 396))), some (.inl (i : Int))] [] n' k' h' Q := fun h5 n' k' h' hI2 => by
    refine T_iinc dL_law_1531 rfl ⟨by omega, by omega⟩ ?_
    refine T_goto dL_law_1534 (t := 18) rfl ?_
    exact ih _ (by omega) (i + 5) n' k' h' rfl (by omega) hI2
  refine T_iload_n dL_law_18 rfl ?_
  refine T_aload_n dL_law_19 rfl ?_
  refine T_arraylength dL_law_20 hs2 ?_
  refine T_iconst dL_law_21 (by decide) ?_
  refine T_isub dL_law_22 ⟨by omega, by omega⟩ ?_
  refine T_icmp_gt dL_law_23 (t := 1537) rfl (fun c23 => ?_) (fun c23 => ?_)
  · refine T_iconst dL_law_1537 (by decide) ?_
    refine T_iret dL_law_1538 rfl ?_
    have q1 := hcl.2.2.2.2.2.2.1.co.1
    obtain ⟨by9, ml9, -, -, -, q4, -, -⟩ := hcl.2.2.2.2.2.2.2.2.1
    exact hQ n k h (by omega) (by omega)
  · refine T_aload_n dL_law_26 rfl ?_
    refine T_iload_n dL_law_27 rfl ?_
    refine T_ialoadN (m := i) dL_law_28 hs2 rfl (by omega) ?_
    refine T_bipush dL_law_29 (by decide) ?_
    refine T_iand dL_law_31 ?_; obtain ⟨w1, w2⟩ := zand63 (f i); obtain ⟨w, ew⟩ := Int.eq_ofNat_of_zero_le w1; rw [ew]
    by_cases e0 : w = 0
    · subst e0
      exact T_tableIn (off := 212) (t := 244) dL_law_32 (by decide) rfl rfl (law_0 hg0 hg4 hB hP hL hI hO hV hcl hrf hcn hpr hdg hs1 hs2 hf ⟨by omega, hlen⟩ (J1531 (by omega)))
    by_cases e1 : w = 1
    · subst e1
      exact T_tableIn (off := 235) (t := 267) dL_law_32 (by decide) rfl rfl (law_1 hg0 hg4 hB hP hL hI hO hV hcl hrf hcn hpr hdg hs1 hs2 hf ⟨by omega, hlen⟩ (J1531 (by omega)))
    by_cases e2 : w = 2
    · subst e2
      exact T_tableIn (off := 248) (t := 280) dL_law_32 (by decide) rfl rfl (law_2 hg0 hg4 hB hP hL hI hO hV hcl hrf hcn hpr hdg hs1 hs2 hf ⟨by omega, hlen⟩ (J1531 (by omega)))
    by_cases e3 : w = 3
    · subst e3
      exact T_tableIn (off := 281) (t := 313) dL_law_32 (by decide) rfl rfl (law_3 hg0 hg4 hB hP hL hI hO hV hcl hrf hcn hpr hdg hs1 hs2 hf ⟨by omega, hlen⟩ (J1531 (by omega)))
    by_cases e4 : w = 4
    · subst e4
      exact T_tableIn (off := 304) (t := 336) dL_law_32 (by decide) rfl rfl (law_4 hg0 hg4 hB hP hL hI hO hV hcl hrf hcn hpr hdg hs1 hs2 hf ⟨by omega, hlen⟩ (J1531 (by omega)))
    by_cases e5 : w = 5
    · subst e5
      exact T_tableIn (off := 317) (t := 349) dL_law_32 (by decide) rfl rfl (law_5 hg0 hg4 hB hP hL hI hO hV hcl hrf hcn hpr hdg hs1 hs2 hf ⟨by omega, hlen⟩ (J1531 (by omega)))
    by_cases e6 : w = 6
    · subst e6
      exact T_tableIn (off := 340) (t := 372) dL_law_32 (by decide) rfl rfl (law_6 hg0 hg4 hB hP hL hI hO hV hcl hrf hcn hpr hdg hs1 hs2 hf ⟨by omega, hlen⟩ (J1531 (by omega)))
    by_cases e7 : w = 7
    · subst e7
      exact T_tableIn (off := 363) (t := 395) dL_law_32 (by decide) rfl rfl (law_7 hg0 hg4 hB hP hL hI hO hV hcl hrf hcn hpr hdg hs1 hs2 hf ⟨by omega, hlen⟩ (J1531 (by omega)))
    by_cases e8 : w = 8
    · subst e8
      exact T_tableIn (off := 376) (t := 408) dL_law_32 (by decide) rfl rfl (law_8 hg0 hg4 hB hP hL hI hO hV hcl hrf hcn hpr hdg hs1 hs2 hf ⟨by omega, hlen⟩ (J1531 (by omega)))
    by_cases e9 : w = 9
    · subst e9
      exact T_tableIn (off := 409) (t := 441) dL_law_32 (by decide) rfl rfl (law_9 hg0 hg4 hB hP hL hI hO hV hcl hrf hcn hpr hdg hs1 hs2 hf ⟨by omega, hlen⟩ (J1531 (by omega)))
    by_cases e10 : w = 10
    · subst e10
      exact T_tableIn (off := 442) (t := 474) dL_law_32 (by decide) rfl rfl (law_10 hg0 hg4 hB hP hL hI hO hV hcl hrf hcn hpr hdg hs1 hs2 hf ⟨by omega, hlen⟩ (J1531 (by omega)))
    by_cases e11 : w = 11
    · subst e11
      exact T_tableIn (off := 495) (t := 527) dL_law_32 (by decide) rfl rfl (law_11 hg0 hg4 hB hP hL hI hO hV hcl hrf hcn hpr hdg hs1 hs2 hf ⟨by omega, hlen⟩ (J1531 (by omega)))
    by_cases e12 : w = 12
    · subst e12
      exact T_tableIn (off := 538) (t := 570) dL_law_32 (by decide) rfl rfl (law_12 hg0 hg4 hB hP hL hI hO hV hcl hrf hcn hpr hdg hs1 hs2 hf ⟨by omega, hlen⟩ (J1531 (by omega)))
    by_cases e13 : w = 13
    · subst e13
      exact T_tableIn (off := 591) (t := 623) dL_law_32 (by decide) rfl rfl (law_13 hg0 hg4 hB hP hL hI hO hV hcl hrf hcn hpr hdg hs1 hs2 hf ⟨by omega, hlen⟩ (J1531 (by omega)))
    by_cases e14 : w = 14
    · subst e14
      exact T_tableIn (off := 604) (t := 636) dL_law_32 (by decide) rfl rfl (law_14 hg0 hg4 hB hP hL hI hO hV hcl hrf hcn hpr hdg hs1 hs2 hf ⟨by omega, hlen⟩ (J1531 (by omega)))
    by_cases e15 : w = 15
    · subst e15
      exact T_tableIn (off := 627) (t := 659) dL_law_32 (by decide) rfl rfl (law_15 hg0 hg4 hB hP hL hI hO hV hcl hrf hcn hpr hdg hs1 hs2 hf ⟨by omega, hlen⟩ (J1531 (by omega)))
    by_cases e16 : w = 16
    · subst e16
      exact T_tableIn (off := 650) (t := 682) dL_law_32 (by decide) rfl rfl (law_16 hg0 hg4 hB hP hL hI hO hV hcl hrf hcn hpr hdg hs1 hs2 hf ⟨by omega, hlen⟩ (J1531 (by omega)))
    by_cases e17 : w = 17
    · subst e17
      exact T_tableIn (off := 683) (t := 715) dL_law_32 (by decide) rfl rfl (law_17 hg0 hg4 hB hP hL hI hO hV hcl hrf hcn hpr hdg hs1 hs2 hf ⟨by omega, hlen⟩ (J1531 (by omega)))
    by_cases e18 : w = 18
    · subst e18
      exact T_tableIn (off := 716) (t := 748) dL_law_32 (by decide) rfl rfl (law_18 hg0 hg4 hB hP hL hI hO hV hcl hrf hcn hpr hdg hs1 hs2 hf ⟨by omega, hlen⟩ (J1531 (by omega)))
    by_cases e19 : w = 19
    · subst e19
      exact T_tableIn (off := 749) (t := 781) dL_law_32 (by decide) rfl rfl (law_19 hg0 hg4 hB hP hL hI hO hV hcl hrf hcn hpr hdg hs1 hs2 hf ⟨by omega, hlen⟩ (J1531 (by omega)))
    by_cases e20 : w = 20
    · subst e20
      exact T_tableIn (off := 772) (t := 804) dL_law_32 (by decide) rfl rfl (law_20 hg0 hg4 hB hP hL hI hO hV hcl hrf hcn hpr hdg hs1 hs2 hf ⟨by omega, hlen⟩ (J1531 (by omega)))
    by_cases e21 : w = 21
    · subst e21
      exact T_tableIn (off := 805) (t := 837) dL_law_32 (by decide) rfl rfl (law_21 hg0 hg4 hB hP hL hI hO hV hcl hrf hcn hpr hdg hs1 hs2 hf ⟨by omega, hlen⟩ (J1531 (by omega)))
    by_cases e22 : w = 22
    · subst e22
      exact T_tableIn (off := 858) (t := 890) dL_law_32 (by decide) rfl rfl (law_22 hg0 hg4 hB hP hL hI hO hV hcl hrf hcn hpr hdg hs1 hs2 hf ⟨by omega, hlen⟩ (J1531 (by omega)))
    by_cases e23 : w = 23
    · subst e23
      exact T_tableIn (off := 881) (t := 913) dL_law_32 (by decide) rfl rfl (law_23 hg0 hg4 hB hP hL hI hO hV hcl hrf hcn hpr hdg hs1 hs2 hf ⟨by omega, hlen⟩ (J1531 (by omega)))
    by_cases e24 : w = 24
    · subst e24
      exact T_tableIn (off := 894) (t := 926) dL_law_32 (by decide) rfl rfl (law_24 hg0 hg4 hB hP hL hI hO hV hcl hrf hcn hpr hdg hs1 hs2 hf ⟨by omega, hlen⟩ (J1531 (by omega)))
    by_cases e25 : w = 25
    · subst e25
      exact T_tableIn (off := 907) (t := 939) dL_law_32 (by decide) rfl rfl (law_25 hg0 hg4 hB hP hL hI hO hV hcl hrf hcn hpr hdg hs1 hs2 hf ⟨by omega, hlen⟩ (J1531 (by omega)))
    by_cases e26 : w = 26
    · subst e26
      exact T_tableIn (off := 930) (t := 962) dL_law_32 (by decide) rfl rfl (law_26 hg0 hg4 hB hP hL hI hO hV hcl hrf hcn hpr hdg hs1 hs2 hf ⟨by omega, hlen⟩ (J1531 (by omega)))
    by_cases e27 : w = 27
    · subst e27
      exact T_tableIn (off := 943) (t := 975) dL_law_32 (by decide) rfl rfl (law_27 hg0 hg4 hB hP hL hI hO hV hcl hrf hcn hpr hdg hs1 hs2 hf ⟨by omega, hlen⟩ (J1531 (by omega)))
    by_cases e28 : w = 28
    · subst e28
      exact T_tableIn (off := 986) (t := 1018) dL_law_32 (by decide) rfl rfl (law_28 hg0 hg4 hB hP hL hI hO hV hcl hrf hcn hpr hdg hs1 hs2 hf ⟨by omega, hlen⟩ (J1531 (by omega)))
    by_cases e29 : w = 29
    · subst e29
      exact T_tableIn (off := 1019) (t := 1051) dL_law_32 (by decide) rfl rfl (law_29 hg0 hg4 hB hP hL hI hO hV hcl hrf hcn hpr hdg hs1 hs2 hf ⟨by omega, hlen⟩ (J1531 (by omega)))
    by_cases e30 : w = 30
    · subst e30
      exact T_tableIn (off := 1032) (t := 1064) dL_law_32 (by decide) rfl rfl (law_30 hg0 hg4 hB hP hL hI hO hV hcl hrf hcn hpr hdg hs1 hs2 hf ⟨by omega, hlen⟩ (J1531 (by omega)))
    by_cases e31 : w = 31
    · subst e31
      exact T_tableIn (off := 1055) (t := 1087) dL_law_32 (by decide) rfl rfl (law_31 hg0 hg4 hB hP hL hI hO hV hcl hrf hcn hpr hdg hs1 hs2 hf ⟨by omega, hlen⟩ (J1531 (by omega)))
    by_cases e32 : w = 32
    · subst e32
      exact T_tableIn (off := 1068) (t := 1100) dL_law_32 (by decide) rfl rfl (law_32 hg0 hg4 hB hP hL hI hO hV hcl hrf hcn hpr hdg hs1 hs2 hf ⟨by omega, hlen⟩ (J1531 (by omega)))
    by_cases e33 : w = 33
    · subst e33
      exact T_tableIn (off := 1091) (t := 1123) dL_law_32 (by decide) rfl rfl (law_33 hg0 hg4 hB hP hL hI hO hV hcl hrf hcn hpr hdg hs1 hs2 hf ⟨by omega, hlen⟩ (J1531 (by omega)))
    by_cases e34 : w = 34
    · subst e34
      exact T_tableIn (off := 1124) (t := 1156) dL_law_32 (by decide) rfl rfl (law_34 hg0 hg4 hB hP hL hI hO hV hcl hrf hcn hpr hdg hs1 hs2 hf ⟨by omega, hlen⟩ (J1531 (by omega)))
    by_cases e35 : w = 35
    · subst e35
      exact T_tableIn (off := 1157) (t := 1189) dL_law_32 (by decide) rfl rfl (law_35 hg0 hg4 hB hP hL hI hO hV hcl hrf hcn hpr hdg hs1 hs2 hf ⟨by omega, hlen⟩ (J1531 (by omega)))
    by_cases e36 : w = 36
    · subst e36
      exact T_tableIn (off := 1180) (t := 1212) dL_law_32 (by decide) rfl rfl (law_36 hg0 hg4 hB hP hL hI hO hV hcl hrf hcn hpr hdg hs1 hs2 hf ⟨by omega, hlen⟩ (J1531 (by omega)))
    by_cases e37 : w = 37
    · subst e37
      exact T_tableIn (off := 1193) (t := 1225) dL_law_32 (by decide) rfl rfl (law_37 hg0 hg4 hB hP hL hI hO hV hcl hrf hcn hpr hdg hs1 hs2 hf ⟨by omega, hlen⟩ (J1531 (by omega)))
    by_cases e38 : w = 38
    · subst e38
      exact T_tableIn (off := 1206) (t := 1238) dL_law_32 (by decide) rfl rfl (law_38 hg0 hg4 hB hP hL hI hO hV hcl hrf hcn hpr hdg hs1 hs2 hf ⟨by omega, hlen⟩ (J1531 (by omega)))
    by_cases e39 : w = 39
    · subst e39
      exact T_tableIn (off := 1239) (t := 1271) dL_law_32 (by decide) rfl rfl (law_39 hg0 hg4 hB hP hL hI hO hV hcl hrf hcn hpr hdg hs1 hs2 hf ⟨by omega, hlen⟩ (J1531 (by omega)))
    by_cases e40 : w = 40
    · subst e40
      exact T_tableIn (off := 1262) (t := 1294) dL_law_32 (by decide) rfl rfl (law_40 hg0 hg4 hB hP hL hI hO hV hcl hrf hcn hpr hdg hs1 hs2 hf ⟨by omega, hlen⟩ (J1531 (by omega)))
    by_cases e41 : w = 41
    · subst e41
      exact T_tableIn (off := 1295) (t := 1327) dL_law_32 (by decide) rfl rfl (law_41 hg0 hg4 hB hP hL hI hO hV hcl hrf hcn hpr hdg hs1 hs2 hf ⟨by omega, hlen⟩ (J1531 (by omega)))
    by_cases e42 : w = 42
    · subst e42
      exact T_tableIn (off := 1338) (t := 1370) dL_law_32 (by decide) rfl rfl (law_42 hg0 hg4 hB hP hL hI hO hV hcl hrf hcn hpr hdg hs1 hs2 hf ⟨by omega, hlen⟩ (J1531 (by omega)))
    by_cases e43 : w = 43
    · subst e43
      exact T_tableIn (off := 1371) (t := 1403) dL_law_32 (by decide) rfl rfl (law_43 hg0 hg4 hB hP hL hI hO hV hcl hrf hcn hpr hdg hs1 hs2 hf ⟨by omega, hlen⟩ (J1531 (by omega)))
    by_cases e44 : w = 44
    · subst e44
      exact T_tableIn (off := 1394) (t := 1426) dL_law_32 (by decide) rfl rfl (law_44 hg0 hg4 hB hP hL hI hO hV hcl hrf hcn hpr hdg hs1 hs2 hf ⟨by omega, hlen⟩ (J1531 (by omega)))
    by_cases e45 : w = 45
    · subst e45
      exact T_tableIn (off := 1417) (t := 1449) dL_law_32 (by decide) rfl rfl (law_45 hg0 hg4 hB hP hL hI hO hV hcl hrf hcn hpr hdg hs1 hs2 hf ⟨by omega, hlen⟩ (J1531 (by omega)))
    by_cases e46 : w = 46
    · subst e46
      exact T_tableIn (off := 1440) (t := 1472) dL_law_32 (by decide) rfl rfl (law_46 hg0 hg4 hB hP hL hI hO hV hcl hrf hcn hpr hdg hs1 hs2 hf ⟨by omega, hlen⟩ (J1531 (by omega)))
    by_cases e47 : w = 47
    · subst e47
      exact T_tableIn (off := 1473) (t := 1505) dL_law_32 (by decide) rfl rfl (law_47 hg0 hg4 hB hP hL hI hO hV hcl hrf hcn hpr hdg hs1 hs2 hf ⟨by omega, hlen⟩ (J1531 (by omega)))
    by_cases e48 : w = 48
    · subst e48
      exact T_tableIn (off := 1486) (t := 1518) dL_law_32 (by decide) rfl rfl (law_48 hg0 hg4 hB hP hL hI hO hV hcl hrf hcn hpr hdg hs1 hs2 hf ⟨by omega, hlen⟩ (J1531 (by omega)))
    exact T_tableOut (t := 1531) dL_law_32 (by omega) rfl (J1531 (by omega) n k h hI9)
theorem wf_zero : pwf pZero := ⟨by unfold zprime pZero; decide, by decide, fun k hk => absurd hk (Nat.not_lt_zero k), fun i j _ hj => absurd hj (Nat.not_lt_zero j), fun m _ => ⟨Int.le_refl _, by show (0 : Int) < 7; decide⟩⟩
theorem lwf_zero : lwf lZero := fun k _ => ⟨Nat.zero_le _, fun h => absurd (show (0 : Nat) = 1 from h) (by decide), fun h => absurd (show (0 : Nat) = 2 from h) (by decide)⟩
set_option maxHeartbeats 4000000 in
set_option maxRecDepth 100000 in
theorem law_start {k : Nat} {g : Nat → zV} {h : zHp} {Q : Option zV → Nat → Nat → zHp → Prop} {B sA len : Nat} {f : Nat → Int} {r4 : Option Nat} (hg0 : g 0 = .inl 1) (hg4 : g 4 = .inr r4) (hf : ∀ j, j < len → zR (f j)) (hlen : len ≤ 2560) (hpr : prOk g h B) (hdg : dgOk g h B) (hs1 : sA < B) (hs2 : h sA = some (.inr (.inl (0, len, f)))) (hQ : ∀ (n' k' : Nat) (h' : zHp), n' ≤ B + 959 → k' ≤ k + 27100 + 5440 → Q (some (.inl 1)) n' k' h') : ZT B g mL_law 0 (zloc mL_law [.inr (some sA)]) [] B k h Q := by
  show ZT B g mL_law 0 [some (.inr (some sA)), none, none, none] [] B k h Q
  have J18 : ∀ (n' k' : Nat) (h' : zHp), lawI g h' B sA len f n' k' (k + 27100) → ZT B g mL_law 18 [some (.inr (some sA)), some (.inr (some B)), some (.inr (some (B + 396))), some (.inl 0)] [] n' k' h' Q := fun n' k' h' hI => law_loop hg0 hg4 (Nat.le_refl _) hf hlen hQ _ 0 n' k' h' rfl (Nat.zero_le _) hI
  refine T_new (sz := 12) (fs := [.inr none, .inr none, .inr none, .inr none, .inl 0, .inr none, .inr none, .inr none, .inr none, .inr none, .inr none, .inr none]) dL_law_0 zkk_20_7 (Nat.le_of_ble_eq_true rfl) rfl rfl ?_
  refine T_dup dL_law_3 ?_
  refine T_callI dL_law_4 zkm_20_9 (Or.inl rfl) rfl ⟨Nat.le_of_ble_eq_true rfl, rfl⟩ rfl (Nat.le_of_ble_eq_true rfl) ?_
  refine m_X9_init zup_self (by omega) hg0 (fun hh4 pc_4 pf_4 => ?_)
  refine T_astore_n dL_law_7 (Nat.le_of_ble_eq_true rfl) ?_
  refine T_new (sz := 46) (fs := [.inl 0, .inl 0, .inr none, .inr none, .inr none, .inl 0, .inr none, .inr none, .inl 0, .inr none, .inr none, .inr none, .inr none, .inr none, .inr none, .inr none, .inl 0, .inr none, .inr none, .inl 0, .inr none, .inr none, .inr none, .inr none, .inr none, .inr none, .inr none, .inr none, .inr none, .inr none, .inl 0, .inl 0, .inl 0, .inl 0, .inr none, .inl 0, .inr none, .inr none, .inr none, .inr none, .inl 0, .inl 0, .inl 0, .inr none, .inr none, .inr none]) dL_law_8 zkk_20_10 (Nat.le_of_ble_eq_true rfl) rfl rfl ?_
  refine T_dup dL_law_11 ?_
  refine T_callI dL_law_12 zkm_20_12 (Or.inl rfl) rfl ⟨Nat.le_of_ble_eq_true rfl, rfl⟩ rfl (Nat.le_of_ble_eq_true rfl) ?_
  refine m_X10_init zup_self (by omega) (fun hh12 pr_12 pf_12 => ?_)
  refine T_astore_n dL_law_15 (Nat.le_of_ble_eq_true rfl) ?_
  refine T_iconst dL_law_16 (by decide) ?_
  refine T_istore_n dL_law_17 (Nat.le_of_ble_eq_true rfl) ?_
  exact J18 _ _ _   ⟨pZero, lZero, oNil, oNil, (0, pZero), 22, _, _, _, ((pc_4 (B + 429) (B + 429) (by omega) (Nat.le_refl _)).frame wf_zero (Nat.le_refl _) (fun q hq => ((pf_12 q (by omega)).trans (zup_nf (by omega))))), pr_12, ⟨wf_zero, lwf_zero, ⟨by decide, fun i hi => absurd hi (Nat.not_lt_zero i)⟩, ⟨by decide, fun i hi => absurd hi (Nat.not_lt_zero i)⟩, ⟨Or.inl rfl, fun h => absurd h (by decide)⟩⟩, (by omega), hpr.frame (fun q hq => ((pf_12 q (by omega)).trans ((zup_nf (by omega)).trans ((pf_4 q (by omega)).trans (zup_nf (by omega)))))), hdg.frame (fun q hq => ((pf_12 q (by omega)).trans ((zup_nf (by omega)).trans ((pf_4 q (by omega)).trans (zup_nf (by omega)))))), hs1, ((pf_12 _ (by omega)).trans ((zup_nf (by omega)).trans ((pf_4 _ (by omega)).trans (zup_nf (by omega))))).trans hs2⟩
