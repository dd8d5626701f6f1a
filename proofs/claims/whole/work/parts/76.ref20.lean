/-! ===== the reference: the system of a cone; interpolation: printed by wip/whole/gen/s_ref20.py ===== -/
theorem zif_iff {p q : Prop} [Decidable p] [Decidable q] {a b : Int} (h : p ↔ q) : (if p then a else b) = if q then a else b := by
  by_cases e : p
  · rw [if_pos e, if_pos (h.mp e)]
  · rw [if_neg e, if_neg (fun x => e (h.mpr x))]
set_option maxHeartbeats 4000000 in
set_option maxRecDepth 100000 in
theorem m_X10_setUp_60 {n0 n k : Nat} {g : Nat → zV} {h : zHp} {Q : Option zV → Nat → Nat → zHp → Prop} {m z c : Nat} {P : pT} {fk cn ln en ax nu wr sv sp ss : Int} {kx : Nat} {xs ys ch wa sy ua : Nat → Int} (hM : h m = some (.inl (11, mOb m P.1 (P.2.1 : Int) fk (z : Int) (c : Int) cn ln en ax nu wr sv sp ss))) (a1 : h (m + 1) = some (.inr (.inl (0, 8, xs)))) (a2 : h (m + 2) = some (.inr (.inl (0, 8, ys)))) (ac : h (m + 18) = some (.inr (.inl (0, 288, ch)))) (aw : h (m + 21) = some (.inr (.inl (0, 8, wa)))) (as : h (m + 22) = some (.inr (.inl (0, 72, sy)))) (au : h (m + 23) = some (.inr (.inl (0, 8, ua)))) (hP : pwf P) (hB : n0 ≤ m) (p2 : ∀ k, k < P.2.1 → xs k = P.2.2.1 k ∧ ys k = P.2.2.2.1 k) (hkx : kx < 32) (hch : ∀ i, i < 9 → ch (9 * kx + i) = ((pB P kx).1 i : Int)) (hQ : ∀ (un : Nat → Nat) (A0 ua' : Nat → Int) (h' : zHp), (zls P kx P.2.1 un) → (∀ t, t < P.2.1 → ua' t = (un t : Int)) → (∀ q, q < P.2.1 → ∀ t, t < P.2.1 → A0 (9 * q + t) = zvec P.1 P.2.2.1 P.2.2.2.1 (un t) q) → (∀ q, q < P.2.1 → A0 (9 * q + P.2.1) = wa q) → h' (m + 22) = some (.inr (.inl (0, 72, A0))) → h' (m + 23) = some (.inr (.inl (0, 8, ua'))) → (∀ q : Nat, q ≠ (m + 22) → q ≠ (m + 23) → h' q = h q) → Q none n k h') : ∀ (d : Nat) (q : Nat) (t : Nat) (un : Nat → Nat) (sy1 : Nat → Int) (ua1 : Nat → Int) (L2 : Option zV), 100 - (10 * q + t) = d → ∀ h1 : zHp, h1 (m + 22) = some (.inr (.inl (0, 72, sy1))) → h1 (m + 23) = some (.inr (.inl (0, 8, ua1))) → (∀ q : Nat, q ≠ (m + 22) → q ≠ (m + 23) → h1 q = h q) → (q < P.2.1 ∧ t ≤ P.2.1) → (zls P kx P.2.1 un) → (∀ t, t < P.2.1 → ua1 t = (un t : Int)) → (∀ a, a < q → (∀ b, b < P.2.1 → sy1 (9 * a + b) = zvec P.1 P.2.2.1 P.2.2.2.1 (un b) a) ∧ sy1 (9 * a + P.2.1) = wa a) → (∀ b, b < t → sy1 (9 * q + b) = zvec P.1 P.2.2.1 P.2.2.2.1 (un b) q) → ZT n0 g mX10_setUp 60 [some (.inr (some m)), some (.inl (kx : Int)), L2, some (.inl (q : Int)), some (.inl (t : Int))] [] n k h1 Q := by
  intro d
  induction d using Nat.strongRecOn with | _ d ih => ?_
  intro q t un sy1 ua1 L2 hd0 h1 m1 m2 hfr hq hls hua hA hT
  subst hd0
  have hpb := hP.bd
  have hs8 := hP.2.1
  refine T_iload dX10_setUp_60 rfl ?_
  refine T_aload_n dX10_setUp_62 rfl ?_
  refine T_getfield dX10_setUp_63 zkf_11_111 ((hfr _ (by omega) (by omega)).trans hM) rfl ?_
  refine T_icmp_ge dX10_setUp_66 (t := 133) rfl (fun c66 => ?_) (fun c66 => ?_)
  · refine T_aload_n dX10_setUp_133 rfl ?_
    refine T_getfield dX10_setUp_134 zkf_11_78 ((hfr _ (by omega) (by omega)).trans hM) rfl ?_
    refine T_bipush dX10_setUp_137 (by decide) ?_
    refine T_iload_n dX10_setUp_139 rfl ?_
    refine T_imul dX10_setUp_140 ⟨by omega, by omega⟩ ?_
    refine T_aload_n dX10_setUp_141 rfl ?_
    refine T_getfield dX10_setUp_142 zkf_11_111 ((hfr _ (by omega) (by omega)).trans hM) rfl ?_
    refine T_iadd dX10_setUp_145 ⟨by omega, by omega⟩ ?_
    refine T_aload_n dX10_setUp_146 rfl ?_
    refine T_getfield dX10_setUp_147 zkf_11_75 ((hfr _ (by omega) (by omega)).trans hM) rfl ?_
    refine T_iload_n dX10_setUp_150 rfl ?_
    refine T_ialoadN (m := q) dX10_setUp_151 ((hfr _ (by omega) (by omega)).trans aw) rfl (by omega) ?_
    refine T_iastoreN (m := (9 * q + P.2.1)) dX10_setUp_152 m1 (by omega) (by omega) (by omega) ?_
    refine T_iinc dX10_setUp_153 rfl ⟨by omega, by omega⟩ ?_
    refine T_goto dX10_setUp_156 (t := 49) rfl ?_
    refine T_iload_n dX10_setUp_49 rfl ?_
    refine T_aload_n dX10_setUp_50 rfl ?_
    refine T_getfield dX10_setUp_51 zkf_11_111 (zup_ne (by omega) ((hfr _ (by omega) (by omega)).trans hM)) rfl ?_
    refine T_icmp_ge dX10_setUp_54 (t := 159) rfl (fun c54 => ?_) (fun c54 => ?_)
    · refine T_vret dX10_setUp_159 rfl ?_
      exact hQ un _ _ _ hls hua (fun a ha t ht => by
            by_cases e : a = q
            · subst e; rw [zfu_ne (by omega)]; exact hT t (by omega)
            · rw [zfu_ne (by omega)]; exact (hA a (by omega)).1 t ht) (fun a ha => by
            by_cases e : a = q
            · subst e; exact zfu_self
            · rw [zfu_ne (by omega)]; exact (hA a (by omega)).2) zup_self (zup_ne (by omega) m2) (fun q q0 q1 => ((zup_nf q0).trans ((hfr _ q0 q1).trans rfl)))
    · refine T_iconst dX10_setUp_57 (by decide) ?_
      refine T_istore dX10_setUp_58 (Nat.le_of_ble_eq_true rfl) ?_
      exact ih _ (by omega) (q + 1) 0 un _ _ _ rfl _ zup_self (zup_ne (by omega) m2) (fun q q0 q1 => ((zup_nf q0).trans ((hfr _ q0 q1).trans rfl))) ⟨by omega, Nat.zero_le _⟩ hls hua (fun a ha => by
            by_cases e : a = q
            · subst e; exact ⟨fun b hb => by rw [zfu_ne (by omega)]; exact hT b (by omega), zfu_self⟩
            · exact ⟨fun b hb => by rw [zfu_ne (by omega)]; exact (hA a (by omega)).1 b hb, by rw [zfu_ne (by omega)]; exact (hA a (by omega)).2⟩) (fun i hi => absurd hi (Nat.not_lt_zero i)) 
  · refine T_aload_n dX10_setUp_69 rfl ?_
    refine T_getfield dX10_setUp_70 zkf_11_78 ((hfr _ (by omega) (by omega)).trans hM) rfl ?_
    refine T_bipush dX10_setUp_73 (by decide) ?_
    refine T_iload_n dX10_setUp_75 rfl ?_
    refine T_imul dX10_setUp_76 ⟨by omega, by omega⟩ ?_
    refine T_iload dX10_setUp_77 rfl ?_
    refine T_iadd dX10_setUp_79 ⟨by omega, by omega⟩ ?_
    refine T_aload_n dX10_setUp_80 rfl ?_
    refine T_aload_n dX10_setUp_81 rfl ?_
    have pj := p2 q hq.1
    have bj := hP.2.2.1 q hq.1
    have ut := hls.1 t (by omega)
    have w1 := zpow_bd (b := xs q) hpb.1 (un t / 9)
    have w2 := zpow_bd (b := ys q) hpb.1 (un t % 9)
    refine T_getfield dX10_setUp_82 zkf_11_13 ((hfr _ (by omega) (by omega)).trans hM) rfl ?_
    refine T_iload_n dX10_setUp_85 rfl ?_
    refine T_ialoadN (m := q) dX10_setUp_86 ((hfr _ (by omega) (by omega)).trans a1) rfl (by omega) ?_
    refine T_aload_n dX10_setUp_87 rfl ?_
    refine T_getfield dX10_setUp_88 zkf_11_81 ((hfr _ (by omega) (by omega)).trans hM) rfl ?_
    refine T_iload dX10_setUp_91 rfl ?_
    refine T_ialoadN (m := t) dX10_setUp_93 m2 rfl (by omega) ?_
    rw [hua t (by omega)]
    refine T_bipush dX10_setUp_94 (by decide) ?_
    refine T_idivN dX10_setUp_96 ⟨by omega, by omega⟩ (by omega) ?_
    refine T_callV dX10_setUp_97 zkm_11_136 (Or.inl rfl) rfl ((hfr _ (by omega) (by omega)).trans hM) ⟨Nat.le_of_ble_eq_true rfl, rfl⟩ rfl (Nat.le_of_ble_eq_true rfl) ?_
    refine m_X10_power (e := ((un t) / 9)) ((hfr _ (by omega) (by omega)).trans hM) hpb (by rw [pj.1]; exact bj.1) (by omega) ?_
    refine T_aload_n dX10_setUp_100 rfl ?_
    refine T_aload_n dX10_setUp_101 rfl ?_
    refine T_getfield dX10_setUp_102 zkf_11_17 ((hfr _ (by omega) (by omega)).trans hM) rfl ?_
    refine T_iload_n dX10_setUp_105 rfl ?_
    refine T_ialoadN (m := q) dX10_setUp_106 ((hfr _ (by omega) (by omega)).trans a2) rfl (by omega) ?_
    refine T_aload_n dX10_setUp_107 rfl ?_
    refine T_getfield dX10_setUp_108 zkf_11_81 ((hfr _ (by omega) (by omega)).trans hM) rfl ?_
    refine T_iload dX10_setUp_111 rfl ?_
    refine T_ialoadN (m := t) dX10_setUp_113 m2 rfl (by omega) ?_
    rw [hua t (by omega)]
    refine T_bipush dX10_setUp_114 (by decide) ?_
    refine T_iremN dX10_setUp_116 ⟨by omega, by omega⟩ (by omega) ?_
    refine T_callV dX10_setUp_117 zkm_11_136 (Or.inl rfl) rfl ((hfr _ (by omega) (by omega)).trans hM) ⟨Nat.le_of_ble_eq_true rfl, rfl⟩ rfl (Nat.le_of_ble_eq_true rfl) ?_
    refine m_X10_power (e := ((un t) % 9)) ((hfr _ (by omega) (by omega)).trans hM) hpb (by rw [pj.2]; exact bj.2) (by omega) ?_
    have m51 := zmul_le w1.1 (show _ ≤ (32 : Int) by omega) w2.1 (show _ ≤ (32 : Int) by omega)
    refine T_imul dX10_setUp_120 (zmulR (by omega) (by omega) (by omega) (by omega)) ?_
    refine T_aload_n dX10_setUp_121 rfl ?_
    refine T_getfield dX10_setUp_122 zkf_11_7 ((hfr _ (by omega) (by omega)).trans hM) rfl ?_
    refine T_iremN dX10_setUp_125 ⟨by omega, by omega⟩ (by omega) ?_
    have r125 := zmod_bd ((zpow P.1 (xs q) ((un t) / 9)) * (zpow P.1 (ys q) ((un t) % 9))) P.1 (by omega)
    refine T_iastoreN (m := (9 * q + t)) dX10_setUp_126 m1 (by omega) (by omega) (by omega) ?_
    refine T_iinc dX10_setUp_127 rfl ⟨by omega, by omega⟩ ?_
    refine T_goto dX10_setUp_130 (t := 60) rfl ?_
    exact ih _ (by omega) q (t + 1) un _ _ _ rfl _ zup_self (zup_ne (by omega) m2) (fun q q0 q1 => ((zup_nf q0).trans ((hfr _ q0 q1).trans rfl))) ⟨hq.1, by omega⟩ hls hua (fun a ha => ⟨fun b hb => by rw [zfu_ne (by omega)]; exact (hA a ha).1 b hb, by rw [zfu_ne (by omega)]; exact (hA a ha).2⟩) (fun b hb => by
          by_cases e : b = t
          · rw [e, zfu_self, pj.1, pj.2]; rfl
          · rw [zfu_ne (by omega)]; exact hT b (by omega)) 
set_option maxHeartbeats 4000000 in
set_option maxRecDepth 100000 in
theorem m_X10_setUp_4 {n0 n k : Nat} {g : Nat → zV} {h : zHp} {Q : Option zV → Nat → Nat → zHp → Prop} {m z c : Nat} {P : pT} {fk cn ln en ax nu wr sv sp ss : Int} {kx : Nat} {xs ys ch wa sy ua : Nat → Int} (hM : h m = some (.inl (11, mOb m P.1 (P.2.1 : Int) fk (z : Int) (c : Int) cn ln en ax nu wr sv sp ss))) (a1 : h (m + 1) = some (.inr (.inl (0, 8, xs)))) (a2 : h (m + 2) = some (.inr (.inl (0, 8, ys)))) (ac : h (m + 18) = some (.inr (.inl (0, 288, ch)))) (aw : h (m + 21) = some (.inr (.inl (0, 8, wa)))) (as : h (m + 22) = some (.inr (.inl (0, 72, sy)))) (au : h (m + 23) = some (.inr (.inl (0, 8, ua)))) (hP : pwf P) (hB : n0 ≤ m) (p2 : ∀ k, k < P.2.1 → xs k = P.2.2.1 k ∧ ys k = P.2.2.2.1 k) (hkx : kx < 32) (hch : ∀ i, i < 9 → ch (9 * kx + i) = ((pB P kx).1 i : Int)) (hQ : ∀ (un : Nat → Nat) (A0 ua' : Nat → Int) (h' : zHp), (zls P kx P.2.1 un) → (∀ t, t < P.2.1 → ua' t = (un t : Int)) → (∀ q, q < P.2.1 → ∀ t, t < P.2.1 → A0 (9 * q + t) = zvec P.1 P.2.2.1 P.2.2.2.1 (un t) q) → (∀ q, q < P.2.1 → A0 (9 * q + P.2.1) = wa q) → h' (m + 22) = some (.inr (.inl (0, 72, A0))) → h' (m + 23) = some (.inr (.inl (0, 8, ua'))) → (∀ q : Nat, q ≠ (m + 22) → q ≠ (m + 23) → h' q = h q) → Q none n k h') : ∀ (d : Nat) (w : Nat) (j : Nat) (un : Nat → Nat) (ua1 : Nat → Int) (L4 : Option zV), 81 - j = d → ∀ h1 : zHp, h1 (m + 23) = some (.inr (.inl (0, 8, ua1))) → (∀ q : Nat, q ≠ (m + 23) → h1 q = h q) → (j ≤ 81) → (zls P kx w un) → (∀ t, t < w → un t < j ∧ ua1 t = (un t : Int)) → (∀ x, x < j → x % 9 < (pB P kx).1 (x / 9) → ∃ t, t < w ∧ un t = x) → ZT n0 g mX10_setUp 4 [some (.inr (some m)), some (.inl (kx : Int)), some (.inl (w : Int)), some (.inl (j : Int)), L4] [] n k h1 Q := by
  intro d
  induction d using Nat.strongRecOn with | _ d ih => ?_
  intro w j un ua1 L4 hd0 h1 m2 hfr hj hls hlt hcv
  subst hd0
  have hpb := hP.bd
  have hs8 := hP.2.1
  refine T_iload_n dX10_setUp_4 rfl ?_
  refine T_bipush dX10_setUp_5 (by decide) ?_
  refine T_icmp_ge dX10_setUp_7 (t := 47) rfl (fun c7 => ?_) (fun c7 => ?_)
  · have ew : w = P.2.1 := hls.full hP (fun x hx hs => hcv x (by omega) hs)
    subst ew
    refine T_iconst dX10_setUp_47 (by decide) ?_
    refine T_istore_n dX10_setUp_48 (Nat.le_of_ble_eq_true rfl) ?_
    refine T_iload_n dX10_setUp_49 rfl ?_
    refine T_aload_n dX10_setUp_50 rfl ?_
    refine T_getfield dX10_setUp_51 zkf_11_111 ((hfr _ (by omega)).trans hM) rfl ?_
    refine T_icmp_ge dX10_setUp_54 (t := 159) rfl (fun c54 => ?_) (fun c54 => ?_)
    · refine T_vret dX10_setUp_159 rfl ?_
      exact hQ un _ _ _ hls (fun t ht => (hlt t ht).2) (fun q hq => by omega) (fun q hq => by omega) ((hfr _ (by omega)).trans as) m2 (fun q q0 q1 => ((hfr _ q1).trans rfl))
    · refine T_iconst dX10_setUp_57 (by decide) ?_
      refine T_istore dX10_setUp_58 (Nat.le_of_ble_eq_true rfl) ?_
      exact m_X10_setUp_60 hM a1 a2 ac aw as au hP hB p2 hkx hch hQ _ 0 0 un sy ua1 _ rfl _ ((hfr _ (by omega)).trans as) m2 (fun q q0 q1 => ((hfr _ q1).trans rfl)) ⟨by omega, Nat.zero_le _⟩ hls (fun t ht => (hlt t ht).2) (fun i hi => absurd hi (Nat.not_lt_zero i)) (fun i hi => absurd hi (Nat.not_lt_zero i)) 
  · refine T_iload_n dX10_setUp_10 rfl ?_
    refine T_bipush dX10_setUp_11 (by decide) ?_
    refine T_iremN dX10_setUp_13 ⟨by omega, by omega⟩ (by omega) ?_
    refine T_aload_n dX10_setUp_14 rfl ?_
    refine T_getfield dX10_setUp_15 zkf_11_66 ((hfr _ (by omega)).trans hM) rfl ?_
    refine T_bipush dX10_setUp_18 (by decide) ?_
    refine T_iload_n dX10_setUp_20 rfl ?_
    refine T_imul dX10_setUp_21 ⟨by omega, by omega⟩ ?_
    refine T_iload_n dX10_setUp_22 rfl ?_
    refine T_bipush dX10_setUp_23 (by decide) ?_
    refine T_idivN dX10_setUp_25 ⟨by omega, by omega⟩ (by omega) ?_
    refine T_iadd dX10_setUp_26 ⟨by omega, by omega⟩ ?_
    refine T_ialoadN (m := (9 * kx + j / 9)) dX10_setUp_27 ((hfr _ (by omega)).trans ac) (by omega) (by omega) ?_
    rw [hch (j / 9) (by omega)]
    refine T_icmp_ge dX10_setUp_28 (t := 41) rfl (fun c28 => ?_) (fun c28 => ?_)
    · refine T_iinc dX10_setUp_41 rfl ⟨by omega, by omega⟩ ?_
      refine T_goto dX10_setUp_44 (t := 4) rfl ?_
      exact ih _ (by omega) w (j + 1) un _ _ rfl _ m2 (fun q q0 => ((hfr _ q0).trans rfl)) (by omega) hls (fun t ht => ⟨by have := (hlt t ht).1; omega, (hlt t ht).2⟩) (fun x hx hs => by
            by_cases e : x = j
            · rw [e] at hs; omega
            · exact hcv x (by omega) hs) 
    · have hls' : zls P kx (w + 1) (zfu un w j) := ⟨fun t ht => by
        by_cases e : t = w
        · rw [e, zfu_self]; exact ⟨by omega, by omega⟩
        · rw [zfu_ne e]; exact hls.1 t (by omega), fun t u htu hu => by
        by_cases e : u = w
        · rw [e, zfu_self, zfu_ne (by omega)]; have := (hlt t (by omega)).1; omega
        · rw [zfu_ne e, zfu_ne (by omega)]; exact hls.2 t u htu (by omega)⟩
      have hle := hls'.le hP
      refine T_aload_n dX10_setUp_31 rfl ?_
      refine T_getfield dX10_setUp_32 zkf_11_81 ((hfr _ (by omega)).trans hM) rfl ?_
      refine T_iload_n dX10_setUp_35 rfl ?_
      refine T_iload_n dX10_setUp_36 rfl ?_
      refine T_iastoreN (m := w) dX10_setUp_37 m2 rfl (by omega) (by omega) ?_
      refine T_iinc dX10_setUp_38 rfl ⟨by omega, by omega⟩ ?_
      refine T_iinc dX10_setUp_41 rfl ⟨by omega, by omega⟩ ?_
      refine T_goto dX10_setUp_44 (t := 4) rfl ?_
      exact ih _ (by omega) (w + 1) (j + 1) (zfu un w j) _ _ rfl _ zup_self (fun q q0 => ((zup_nf q0).trans ((hfr _ q0).trans rfl))) (by omega) hls' (fun t ht => by
            by_cases e : t = w
            · rw [e, zfu_self, zfu_self]; exact ⟨by omega, rfl⟩
            · rw [zfu_ne e, zfu_ne e]; exact ⟨by have := (hlt t (by omega)).1; omega, (hlt t (by omega)).2⟩) (fun x hx hs => by
            by_cases e : x = j
            · exact ⟨w, by omega, by rw [zfu_self, e]⟩
            · obtain ⟨t, ht, et⟩ := hcv x (by omega) hs
              exact ⟨t, by omega, by rw [zfu_ne (by omega)]; exact et⟩) 
set_option maxHeartbeats 4000000 in
set_option maxRecDepth 100000 in
theorem m_X10_setUp {n0 n k : Nat} {g : Nat → zV} {h : zHp} {Q : Option zV → Nat → Nat → zHp → Prop} {m z c : Nat} {P : pT} {fk cn ln en ax nu wr sv sp ss : Int} {kx : Nat} {xs ys ch wa sy ua : Nat → Int} (hM : h m = some (.inl (11, mOb m P.1 (P.2.1 : Int) fk (z : Int) (c : Int) cn ln en ax nu wr sv sp ss))) (a1 : h (m + 1) = some (.inr (.inl (0, 8, xs)))) (a2 : h (m + 2) = some (.inr (.inl (0, 8, ys)))) (ac : h (m + 18) = some (.inr (.inl (0, 288, ch)))) (aw : h (m + 21) = some (.inr (.inl (0, 8, wa)))) (as : h (m + 22) = some (.inr (.inl (0, 72, sy)))) (au : h (m + 23) = some (.inr (.inl (0, 8, ua)))) (hP : pwf P) (hB : n0 ≤ m) (p2 : ∀ k, k < P.2.1 → xs k = P.2.2.1 k ∧ ys k = P.2.2.2.1 k) (hkx : kx < 32) (hch : ∀ i, i < 9 → ch (9 * kx + i) = ((pB P kx).1 i : Int)) (hQ : ∀ (un : Nat → Nat) (A0 ua' : Nat → Int) (h' : zHp), (zls P kx P.2.1 un) → (∀ t, t < P.2.1 → ua' t = (un t : Int)) → (∀ q, q < P.2.1 → ∀ t, t < P.2.1 → A0 (9 * q + t) = zvec P.1 P.2.2.1 P.2.2.2.1 (un t) q) → (∀ q, q < P.2.1 → A0 (9 * q + P.2.1) = wa q) → h' (m + 22) = some (.inr (.inl (0, 72, A0))) → h' (m + 23) = some (.inr (.inl (0, 8, ua'))) → (∀ q : Nat, q ≠ (m + 22) → q ≠ (m + 23) → h' q = h q) → Q none n k h') : ZT n0 g mX10_setUp 0 (zloc mX10_setUp [.inr (some m), .inl (kx : Int)]) [] n k h Q := by
  show ZT n0 g mX10_setUp 0 [some (.inr (some m)), some (.inl (kx : Int)), none, none, none] [] n k h Q
  have hpb := hP.bd
  have hs8 := hP.2.1
  refine T_iconst dX10_setUp_0 (by decide) ?_
  refine T_istore_n dX10_setUp_1 (Nat.le_of_ble_eq_true rfl) ?_
  refine T_iconst dX10_setUp_2 (by decide) ?_
  refine T_istore_n dX10_setUp_3 (Nat.le_of_ble_eq_true rfl) ?_
  exact m_X10_setUp_4 hM a1 a2 ac aw as au hP hB p2 hkx hch hQ _ 0 0 (fun _ => 0) ua _ rfl _ au (fun q q0 => rfl) (by omega) ⟨fun t ht => absurd ht (Nat.not_lt_zero t), fun t u _ hu => absurd hu (Nat.not_lt_zero u)⟩ (fun t ht => absurd ht (Nat.not_lt_zero t)) (fun x hx => absurd hx (Nat.not_lt_zero x)) 
set_option maxHeartbeats 4000000 in
set_option maxRecDepth 100000 in
theorem m_X10_exchange_2 {n0 n k : Nat} {g : Nat → zV} {h : zHp} {Q : Option zV → Nat → Nat → zHp → Prop} {m z c : Nat} {P : pT} {fk cn ln en ax nu wr sv sp ss : Int} {r e : Nat} {sy : Nat → Int} (hM : h m = some (.inl (11, mOb m P.1 (P.2.1 : Int) fk (z : Int) (c : Int) cn ln en ax nu wr sv sp ss))) (as : h (m + 22) = some (.inr (.inl (0, 72, sy)))) (hs : P.2.1 ≤ 8) (hB : n0 ≤ m) (hr : r < 8 ∧ e < 8) (hQ : ∀ (B : Nat → Int) (h' : zHp), (∀ k, k ≤ P.2.1 → B (9 * r + k) = sy (9 * e + k) ∧ B (9 * e + k) = sy (9 * r + k)) → (∀ i, i < P.2.1 → i ≠ r → i ≠ e → ∀ k, k ≤ P.2.1 → B (9 * i + k) = sy (9 * i + k)) → h' (m + 22) = some (.inr (.inl (0, 72, B))) → (∀ q : Nat, q ≠ (m + 22) → h' q = h q) → Q none n k h') : ∀ (d : Nat) (y : Nat) (u : Nat → Int) (L4 : Option zV), P.2.1 + 1 - y = d → ∀ h1 : zHp, h1 (m + 22) = some (.inr (.inl (0, 72, u))) → (∀ q : Nat, q ≠ (m + 22) → h1 q = h q) → (y ≤ P.2.1 + 1) → (∀ x, x ≤ P.2.1 → (x < y → u (9 * r + x) = sy (9 * e + x) ∧ u (9 * e + x) = sy (9 * r + x)) ∧ (y ≤ x → u (9 * r + x) = sy (9 * r + x) ∧ u (9 * e + x) = sy (9 * e + x))) → (∀ i, i < P.2.1 → i ≠ r → i ≠ e → ∀ x, x ≤ P.2.1 → u (9 * i + x) = sy (9 * i + x)) → ZT n0 g mX10_exchange 2 [some (.inr (some m)), some (.inl (r : Int)), some (.inl (e : Int)), some (.inl (y : Int)), L4] [] n k h1 Q := by
  intro d
  induction d using Nat.strongRecOn with | _ d ih => ?_
  intro y u L4 hd0 h1 m1 hfr hk hu hv
  subst hd0
  refine T_iload_n dX10_exchange_2 rfl ?_
  refine T_aload_n dX10_exchange_3 rfl ?_
  refine T_getfield dX10_exchange_4 zkf_11_111 ((hfr _ (by omega)).trans hM) rfl ?_
  refine T_icmp_gt dX10_exchange_7 (t := 64) rfl (fun c7 => ?_) (fun c7 => ?_)
  · refine T_vret dX10_exchange_64 rfl ?_
    exact hQ _ _ (fun x hx => (hu x hx).1 (by omega)) hv m1 (fun q q0 => ((hfr _ q0).trans rfl))
  · refine T_aload_n dX10_exchange_10 rfl ?_
    refine T_getfield dX10_exchange_11 zkf_11_78 ((hfr _ (by omega)).trans hM) rfl ?_
    refine T_bipush dX10_exchange_14 (by decide) ?_
    refine T_iload_n dX10_exchange_16 rfl ?_
    refine T_imul dX10_exchange_17 ⟨by omega, by omega⟩ ?_
    refine T_iload_n dX10_exchange_18 rfl ?_
    refine T_iadd dX10_exchange_19 ⟨by omega, by omega⟩ ?_
    refine T_ialoadN (m := (9 * r + y)) dX10_exchange_20 m1 (by omega) (by omega) ?_
    refine T_istore dX10_exchange_21 (Nat.le_of_ble_eq_true rfl) ?_
    refine T_aload_n dX10_exchange_23 rfl ?_
    refine T_getfield dX10_exchange_24 zkf_11_78 ((hfr _ (by omega)).trans hM) rfl ?_
    refine T_bipush dX10_exchange_27 (by decide) ?_
    refine T_iload_n dX10_exchange_29 rfl ?_
    refine T_imul dX10_exchange_30 ⟨by omega, by omega⟩ ?_
    refine T_iload_n dX10_exchange_31 rfl ?_
    refine T_iadd dX10_exchange_32 ⟨by omega, by omega⟩ ?_
    refine T_aload_n dX10_exchange_33 rfl ?_
    refine T_getfield dX10_exchange_34 zkf_11_78 ((hfr _ (by omega)).trans hM) rfl ?_
    refine T_bipush dX10_exchange_37 (by decide) ?_
    refine T_iload_n dX10_exchange_39 rfl ?_
    refine T_imul dX10_exchange_40 ⟨by omega, by omega⟩ ?_
    refine T_iload_n dX10_exchange_41 rfl ?_
    refine T_iadd dX10_exchange_42 ⟨by omega, by omega⟩ ?_
    refine T_ialoadN (m := (9 * e + y)) dX10_exchange_43 m1 (by omega) (by omega) ?_
    refine T_iastoreN (m := (9 * r + y)) dX10_exchange_44 m1 (by omega) (by omega) (by omega) ?_
    refine T_aload_n dX10_exchange_45 rfl ?_
    refine T_getfield dX10_exchange_46 zkf_11_78 (zup_ne (by omega) ((hfr _ (by omega)).trans hM)) rfl ?_
    refine T_bipush dX10_exchange_49 (by decide) ?_
    refine T_iload_n dX10_exchange_51 rfl ?_
    refine T_imul dX10_exchange_52 ⟨by omega, by omega⟩ ?_
    refine T_iload_n dX10_exchange_53 rfl ?_
    refine T_iadd dX10_exchange_54 ⟨by omega, by omega⟩ ?_
    refine T_iload dX10_exchange_55 rfl ?_
    refine T_iastoreN (m := (9 * e + y)) dX10_exchange_57 zup_self (by omega) (by omega) (by omega) ?_
    refine T_iinc dX10_exchange_58 rfl ⟨by omega, by omega⟩ ?_
    refine T_goto dX10_exchange_61 (t := 2) rfl ?_
    exact ih _ (by omega) (y + 1) _ _ rfl _ zup_self (fun q q0 => ((zup_nf q0).trans ((zup_nf q0).trans ((hfr _ q0).trans rfl)))) (by omega) (fun x hx => by
          have h9 := hu x hx
          by_cases e9 : x = y
          · subst e9
            have h8 := h9.2 (Nat.le_refl _)
            refine ⟨fun _ => ⟨?_, by rw [zfu_self]; exact h8.1⟩, fun q => by omega⟩
            by_cases e8 : r = e
            · subst e8; rw [zfu_self]; exact h8.1
            · rw [zfu_ne (by omega), zfu_self]; exact h8.2
          · rw [zfu_ne (by omega), zfu_ne (by omega), zfu_ne (by omega), zfu_ne (by omega)]
            exact ⟨fun q => h9.1 (by omega), fun q => h9.2 (by omega)⟩) (fun i hi h1 h2 x hx => by rw [zfu_ne (by omega), zfu_ne (by omega)]; exact hv i hi h1 h2 x hx) 
set_option maxHeartbeats 4000000 in
set_option maxRecDepth 100000 in
theorem m_X10_exchange {n0 n k : Nat} {g : Nat → zV} {h : zHp} {Q : Option zV → Nat → Nat → zHp → Prop} {m z c : Nat} {P : pT} {fk cn ln en ax nu wr sv sp ss : Int} {r e : Nat} {sy : Nat → Int} (hM : h m = some (.inl (11, mOb m P.1 (P.2.1 : Int) fk (z : Int) (c : Int) cn ln en ax nu wr sv sp ss))) (as : h (m + 22) = some (.inr (.inl (0, 72, sy)))) (hs : P.2.1 ≤ 8) (hB : n0 ≤ m) (hr : r < 8 ∧ e < 8) (hQ : ∀ (B : Nat → Int) (h' : zHp), (∀ k, k ≤ P.2.1 → B (9 * r + k) = sy (9 * e + k) ∧ B (9 * e + k) = sy (9 * r + k)) → (∀ i, i < P.2.1 → i ≠ r → i ≠ e → ∀ k, k ≤ P.2.1 → B (9 * i + k) = sy (9 * i + k)) → h' (m + 22) = some (.inr (.inl (0, 72, B))) → (∀ q : Nat, q ≠ (m + 22) → h' q = h q) → Q none n k h') : ZT n0 g mX10_exchange 0 (zloc mX10_exchange [.inr (some m), .inl (r : Int), .inl (e : Int)]) [] n k h Q := by
  show ZT n0 g mX10_exchange 0 [some (.inr (some m)), some (.inl (r : Int)), some (.inl (e : Int)), none, none] [] n k h Q
  refine T_iconst dX10_exchange_0 (by decide) ?_
  refine T_istore_n dX10_exchange_1 (Nat.le_of_ble_eq_true rfl) ?_
  exact m_X10_exchange_2 hM as hs hB hr hQ _ 0 sy _ rfl _ as (fun q q0 => rfl) (by omega) (fun x hx => ⟨fun q => absurd q (Nat.not_lt_zero x), fun _ => ⟨rfl, rfl⟩⟩) (fun i _ _ _ x _ => rfl) 
set_option maxHeartbeats 4000000 in
set_option maxRecDepth 100000 in
theorem m_X10_solve_231 {n0 n k : Nat} {g : Nat → zV} {h : zHp} {Q : Option zV → Nat → Nat → zHp → Prop} {m z c : Nat} {P : pT} {fk cn ln en ax nu wr sv sp ss : Int} {kx : Nat} {xs ys ch wa sy ua cu : Nat → Int} (hM : h m = some (.inl (11, mOb m P.1 (P.2.1 : Int) fk (z : Int) (c : Int) cn ln en ax nu wr sv sp ss))) (a1 : h (m + 1) = some (.inr (.inl (0, 8, xs)))) (a2 : h (m + 2) = some (.inr (.inl (0, 8, ys)))) (a3 : h (m + 3) = some (.inr (.inl (0, 81, cu)))) (ac : h (m + 18) = some (.inr (.inl (0, 288, ch)))) (aw : h (m + 21) = some (.inr (.inl (0, 8, wa)))) (as : h (m + 22) = some (.inr (.inl (0, 72, sy)))) (au : h (m + 23) = some (.inr (.inl (0, 8, ua)))) (hP : pwf P) (hB : n0 ≤ m) (p2 : ∀ k, k < P.2.1 → xs k = P.2.2.1 k ∧ ys k = P.2.2.2.1 k) (hkx : kx < 32) (hch : ∀ i, i < 9 → ch (9 * kx + i) = ((pB P kx).1 i : Int)) (hwa : ∀ q, q < P.2.1 → 0 ≤ wa q ∧ wa q < P.1) (hQ : ∀ (C cu' sy' ua' : Nat → Int) (h' : zHp), (zint P (pB P kx).1 wa C) → (∀ x, x < 81 → cu' x = C x) → h' (m + 3) = some (.inr (.inl (0, 81, cu'))) → h' (m + 22) = some (.inr (.inl (0, 72, sy'))) → h' (m + 23) = some (.inr (.inl (0, 8, ua'))) → (∀ q : Nat, q ≠ (m + 3) → q ≠ (m + 22) → q ≠ (m + 23) → h' q = h q) → Q (some (.inl (znz C 81 : Int))) n k h') : ∀ (d : Nat) (j : Nat) (v : Nat → Int) (un : Nat → Nat) (A0 : Nat → Int) (A : Nat → Int) (ua1 : Nat → Int) (L3 : Option zV) (L4 : Option zV) (L5 : Option zV) (L6 : Option zV) (L7 : Option zV), P.2.1 - j = d → ∀ h1 : zHp, h1 (m + 3) = some (.inr (.inl (0, 81, v))) → h1 (m + 22) = some (.inr (.inl (0, 72, A))) → h1 (m + 23) = some (.inr (.inl (0, 8, ua1))) → (∀ q : Nat, q ≠ (m + 3) → q ≠ (m + 22) → q ≠ (m + 23) → h1 q = h q) → (j ≤ P.2.1) → (GJ P.1 P.2.1 (P.2.1) A0 A) → (zls P kx P.2.1 un) → (∀ t, t < P.2.1 → ua1 t = (un t : Int)) → (∀ q, q < P.2.1 → ∀ t, t < P.2.1 → A0 (9 * q + t) = zvec P.1 P.2.2.1 P.2.2.2.1 (un t) q) → (∀ q, q < P.2.1 → A0 (9 * q + P.2.1) = wa q) → (∀ x, x < 81 → v x = zsc un (fun t => A (9 * t + P.2.1)) j x) → ZT n0 g mX10_solve 231 [some (.inr (some m)), some (.inl (kx : Int)), some (.inl (j : Int)), L3, L4, L5, L6, L7] [] n k h1 Q := by
  intro d
  induction d using Nat.strongRecOn with | _ d ih => ?_
  intro j v un A0 A ua1 L3 L4 L5 L6 L7 hd0 h1 m0 m1 m2 hfr hj hG hls hua hA0 hW0 hv
  subst hd0
  have hpb := hP.bd
  have hs8 := hP.2.1
  refine T_iload_n dX10_solve_231 rfl ?_
  refine T_aload_n dX10_solve_232 rfl ?_
  refine T_getfield dX10_solve_233 zkf_11_111 ((hfr _ (by omega) (by omega) (by omega)).trans hM) rfl ?_
  refine T_icmp_ge dX10_solve_236 (t := 270) rfl (fun c236 => ?_) (fun c236 => ?_)
  · refine T_aload_n dX10_solve_270 rfl ?_
    refine T_callV dX10_solve_271 zkm_11_242 (Or.inl rfl) rfl ((hfr _ (by omega) (by omega) (by omega)).trans hM) ⟨Nat.le_of_ble_eq_true rfl, rfl⟩ rfl (Nat.le_of_ble_eq_true rfl) ?_
    refine cc_termCount ((hfr _ (by omega) (by omega) (by omega)).trans hM) m0  ?_
    refine T_iret dX10_solve_274 rfl ?_
    have ej : j = P.2.1 := by omega
    subst ej
    have hz := hls.sol hP hA0 hW0 hwa hG
    rw [znz_ext hv]
    exact hQ _ v A ua1 h1 hz hv m0 m1 m2 hfr
  · refine T_aload_n dX10_solve_239 rfl ?_
    refine T_getfield dX10_solve_240 zkf_11_20 ((hfr _ (by omega) (by omega) (by omega)).trans hM) rfl ?_
    refine T_aload_n dX10_solve_243 rfl ?_
    refine T_getfield dX10_solve_244 zkf_11_81 ((hfr _ (by omega) (by omega) (by omega)).trans hM) rfl ?_
    refine T_iload_n dX10_solve_247 rfl ?_
    refine T_ialoadN (m := j) dX10_solve_248 m2 rfl (by omega) ?_
    refine T_aload_n dX10_solve_249 rfl ?_
    refine T_getfield dX10_solve_250 zkf_11_78 ((hfr _ (by omega) (by omega) (by omega)).trans hM) rfl ?_
    refine T_bipush dX10_solve_253 (by decide) ?_
    refine T_iload_n dX10_solve_255 rfl ?_
    refine T_imul dX10_solve_256 ⟨by omega, by omega⟩ ?_
    refine T_aload_n dX10_solve_257 rfl ?_
    refine T_getfield dX10_solve_258 zkf_11_111 ((hfr _ (by omega) (by omega) (by omega)).trans hM) rfl ?_
    refine T_iadd dX10_solve_261 ⟨by omega, by omega⟩ ?_
    refine T_ialoadN (m := (9 * j + P.2.1)) dX10_solve_262 m1 (by omega) (by omega) ?_
    refine T_iastoreN (m := (un j)) dX10_solve_263 m0 (hua j (by omega)) (hls.1 j (by omega)).1 (by omega) ?_
    refine T_iinc dX10_solve_264 rfl ⟨by omega, by omega⟩ ?_
    refine T_goto dX10_solve_267 (t := 231) rfl ?_
    exact ih _ (by omega) (j + 1) _ un A0 A ua1 _ _ _ _ _ rfl _ zup_self (zup_ne (by omega) m1) (zup_ne (by omega) m2) (fun q q0 q1 q2 => ((zup_nf q0).trans ((hfr _ q0 q1 q2).trans rfl))) (by omega) hG hls hua hA0 hW0 (fun x hx => by
          unfold zsc
          by_cases e : x = un j
          · rw [e, zfu_self, zfu_self]
          · rw [zfu_ne e, zfu_ne e]; exact hv x hx) 
set_option maxHeartbeats 4000000 in
set_option maxRecDepth 100000 in
theorem m_X10_solve_149 {n0 n k : Nat} {g : Nat → zV} {h : zHp} {Q : Option zV → Nat → Nat → zHp → Prop} {m z c : Nat} {P : pT} {fk cn ln en ax nu wr sv sp ss : Int} {kx : Nat} {xs ys ch wa sy ua cu : Nat → Int} (hM : h m = some (.inl (11, mOb m P.1 (P.2.1 : Int) fk (z : Int) (c : Int) cn ln en ax nu wr sv sp ss))) (a1 : h (m + 1) = some (.inr (.inl (0, 8, xs)))) (a2 : h (m + 2) = some (.inr (.inl (0, 8, ys)))) (a3 : h (m + 3) = some (.inr (.inl (0, 81, cu)))) (ac : h (m + 18) = some (.inr (.inl (0, 288, ch)))) (aw : h (m + 21) = some (.inr (.inl (0, 8, wa)))) (as : h (m + 22) = some (.inr (.inl (0, 72, sy)))) (au : h (m + 23) = some (.inr (.inl (0, 8, ua)))) (hP : pwf P) (hB : n0 ≤ m) (p2 : ∀ k, k < P.2.1 → xs k = P.2.2.1 k ∧ ys k = P.2.2.2.1 k) (hkx : kx < 32) (hch : ∀ i, i < 9 → ch (9 * kx + i) = ((pB P kx).1 i : Int)) (hwa : ∀ q, q < P.2.1 → 0 ≤ wa q ∧ wa q < P.1)  : ∀ (d : Nat) (c9 : Nat) (D110 : Nat → Int) (ua1 : Nat → Int) (i : Nat) (t : Nat) (f : Int) (u : Nat → Int) (L3 : Option zV) (L4 : Option zV), 200 - (10 * i + t) = d → ∀ h1 : zHp, h1 (m + 22) = some (.inr (.inl (0, 72, u))) → h1 (m + 23) = some (.inr (.inl (0, 8, ua1))) → (∀ q : Nat, q ≠ (m + 22) → q ≠ (m + 23) → h1 q = h q) → (c9 < P.2.1) → (i < P.2.1 ∧ t ≤ P.2.1 + 1) → (f = if i = c9 then 0 else D110 (9 * i + c9)) → (∀ y, y < P.2.1 → ∀ x, x ≤ P.2.1 → 0 ≤ D110 (9 * y + x) ∧ D110 (9 * y + x) < P.1) → (∀ y, y < P.2.1 → ∀ x, x ≤ P.2.1 → u (9 * y + x) = if y < i ∨ (y = i ∧ x < t) then (if y = c9 then D110 (9 * c9 + x) else (D110 (9 * y + x) - D110 (9 * y + c9) * D110 (9 * c9 + x)) % P.1) else D110 (9 * y + x)) → (∀ (G : Nat → Int) (L5 : Option zV) (L6 : Option zV) (L7 : Option zV) (h' : zHp), (∀ y, y < P.2.1 → ∀ x, x ≤ P.2.1 → G (9 * y + x) = (if y = c9 then D110 (9 * c9 + x) else (D110 (9 * y + x) - D110 (9 * y + c9) * D110 (9 * c9 + x)) % P.1)) → h' (m + 22) = some (.inr (.inl (0, 72, G))) → h' (m + 23) = some (.inr (.inl (0, 8, ua1))) → (∀ q : Nat, q ≠ (m + 22) → q ≠ (m + 23) → h' q = h q) → ZT n0 g mX10_solve 219 [some (.inr (some m)), some (.inl (kx : Int)), some (.inl (c9 : Int)), L3, L4, L5, L6, L7] [] n k h' Q) → ZT n0 g mX10_solve 149 [some (.inr (some m)), some (.inl (kx : Int)), some (.inl (c9 : Int)), L3, L4, some (.inl (i : Int)), some (.inl f), some (.inl (t : Int))] [] n k h1 Q := by
  intro d
  induction d using Nat.strongRecOn with | _ d ih => ?_
  intro c9 D110 ua1 i t f u L3 L4 hd0 h1 m1 m2 hfr hc hi hf hDb hu kk219
  subst hd0
  have hpb := hP.bd
  have hs8 := hP.2.1
  have hfb : 0 ≤ f ∧ f < P.1 := by
    rw [hf]
    split
    · omega
    · exact hDb i hi.1 c9 (by omega)
  refine T_iload dX10_solve_149 rfl ?_
  refine T_aload_n dX10_solve_151 rfl ?_
  refine T_getfield dX10_solve_152 zkf_11_111 ((hfr _ (by omega) (by omega)).trans hM) rfl ?_
  refine T_icmp_gt dX10_solve_155 (t := 213) rfl (fun c155 => ?_) (fun c155 => ?_)
  · refine T_iinc dX10_solve_213 rfl ⟨by omega, by omega⟩ ?_
    refine T_goto dX10_solve_216 (t := 113) rfl ?_
    refine T_iload dX10_solve_113 rfl ?_
    refine T_aload_n dX10_solve_115 rfl ?_
    refine T_getfield dX10_solve_116 zkf_11_111 ((hfr _ (by omega) (by omega)).trans hM) rfl ?_
    refine T_icmp_ge dX10_solve_119 (t := 219) rfl (fun c119 => ?_) (fun c119 => ?_)
    · exact kk219 _ _ _ _ _ (fun y hy x hx => by rw [hu y hy x hx, if_pos (by omega)]) m1 m2 (fun q q0 q1 => ((hfr _ q0 q1).trans rfl))
    · refine T_iload dX10_solve_122 rfl ?_
      refine T_iload_n dX10_solve_124 rfl ?_
      refine T_icmp_ne dX10_solve_125 (t := 132) rfl (fun c125 => ?_) (fun c125 => ?_)
      · refine T_aload_n dX10_solve_132 rfl ?_
        refine T_getfield dX10_solve_133 zkf_11_78 ((hfr _ (by omega) (by omega)).trans hM) rfl ?_
        refine T_bipush dX10_solve_136 (by decide) ?_
        refine T_iload dX10_solve_138 rfl ?_
        refine T_imul dX10_solve_140 ⟨by omega, by omega⟩ ?_
        refine T_iload_n dX10_solve_141 rfl ?_
        refine T_iadd dX10_solve_142 ⟨by omega, by omega⟩ ?_
        refine T_ialoadN (m := ((9 * (i + 1)) + c9)) dX10_solve_143 m1 (by omega) (by omega) ?_
        refine T_istore dX10_solve_144 (Nat.le_of_ble_eq_true rfl) ?_
        refine T_iconst dX10_solve_146 (by decide) ?_
        refine T_istore dX10_solve_147 (Nat.le_of_ble_eq_true rfl) ?_
        exact ih _ (by omega) c9 D110 ua1 (i + 1) 0 (u ((9 * (i + 1)) + c9)) u _ _ rfl _ m1 m2 (fun q q0 q1 => ((hfr _ q0 q1).trans rfl)) (by omega) ⟨by omega, Nat.zero_le _⟩ (by rw [if_neg (by omega), hu (i + 1) (by omega) c9 (by omega), if_neg (by omega)]) hDb (fun y hy x hx => (hu y hy x hx).trans (zif_iff (by omega))) kk219
      · refine T_iconst dX10_solve_128 (by decide) ?_
        refine T_goto dX10_solve_129 (t := 144) rfl ?_
        refine T_istore dX10_solve_144 (Nat.le_of_ble_eq_true rfl) ?_
        refine T_iconst dX10_solve_146 (by decide) ?_
        refine T_istore dX10_solve_147 (Nat.le_of_ble_eq_true rfl) ?_
        exact ih _ (by omega) c9 D110 ua1 (i + 1) 0 0 u _ _ rfl _ m1 m2 (fun q q0 q1 => ((hfr _ q0 q1).trans rfl)) (by omega) ⟨by omega, Nat.zero_le _⟩ (by rw [if_pos (by omega)]) hDb (fun y hy x hx => (hu y hy x hx).trans (zif_iff (by omega))) kk219
  · refine T_aload_n dX10_solve_158 rfl ?_
    refine T_getfield dX10_solve_159 zkf_11_78 ((hfr _ (by omega) (by omega)).trans hM) rfl ?_
    refine T_bipush dX10_solve_162 (by decide) ?_
    refine T_iload dX10_solve_164 rfl ?_
    refine T_imul dX10_solve_166 ⟨by omega, by omega⟩ ?_
    refine T_iload dX10_solve_167 rfl ?_
    refine T_iadd dX10_solve_169 ⟨by omega, by omega⟩ ?_
    refine T_aload_n dX10_solve_170 rfl ?_
    refine T_getfield dX10_solve_171 zkf_11_78 ((hfr _ (by omega) (by omega)).trans hM) rfl ?_
    refine T_bipush dX10_solve_174 (by decide) ?_
    refine T_iload dX10_solve_176 rfl ?_
    refine T_imul dX10_solve_178 ⟨by omega, by omega⟩ ?_
    refine T_iload dX10_solve_179 rfl ?_
    refine T_iadd dX10_solve_181 ⟨by omega, by omega⟩ ?_
    refine T_ialoadN (m := (9 * i + t)) dX10_solve_182 m1 (by omega) (by omega) ?_
    have e182 : u (9 * i + t) = D110 (9 * i + t) := by rw [hu i hi.1 t (by omega), if_neg (by omega)]
    have e196 : u (9 * c9 + t) = D110 (9 * c9 + t) := by
      rw [hu c9 (by omega) t (by omega)]
      split
      · rw [if_pos rfl]
      · rfl
    have b182 := hDb i hi.1 t (by omega)
    have b196 := hDb c9 (by omega) t (by omega)
    have m197 := zmul_le hfb.1 (show _ ≤ (32 : Int) by omega) b196.1 (show _ ≤ (32 : Int) by omega)
    rw [e182]
    refine T_iload dX10_solve_183 rfl ?_
    refine T_aload_n dX10_solve_185 rfl ?_
    refine T_getfield dX10_solve_186 zkf_11_78 ((hfr _ (by omega) (by omega)).trans hM) rfl ?_
    refine T_bipush dX10_solve_189 (by decide) ?_
    refine T_iload_n dX10_solve_191 rfl ?_
    refine T_imul dX10_solve_192 ⟨by omega, by omega⟩ ?_
    refine T_iload dX10_solve_193 rfl ?_
    refine T_iadd dX10_solve_195 ⟨by omega, by omega⟩ ?_
    refine T_ialoadN (m := (9 * c9 + t)) dX10_solve_196 m1 (by omega) (by omega) ?_
    rw [e196]
    refine T_imul dX10_solve_197 (zmulR (by omega) (by omega) (by omega) (by omega)) ?_
    refine T_isub dX10_solve_198 ⟨by omega, by omega⟩ ?_
    refine T_aload_n dX10_solve_199 rfl ?_
    refine T_getfield dX10_solve_200 zkf_11_7 ((hfr _ (by omega) (by omega)).trans hM) rfl ?_
    refine T_callS dX10_solve_203 zkm_11_143 ⟨Nat.le_of_ble_eq_true rfl, Nat.le_of_ble_eq_true rfl, rfl⟩ rfl (Nat.le_of_ble_eq_true rfl) ?_
    refine m_J9_floorMod_7cf53  ⟨by omega, by omega⟩ ⟨by omega, by omega⟩ ?_
    refine T_iastoreN (m := (9 * i + t)) dX10_solve_206 m1 (by omega) (by omega) (by omega) ?_
    refine T_iinc dX10_solve_207 rfl ⟨by omega, by omega⟩ ?_
    refine T_goto dX10_solve_210 (t := 149) rfl ?_
    exact ih _ (by omega) c9 D110 ua1 i (t + 1) f _ _ _ rfl _ zup_self (zup_ne (by omega) m2) (fun q q0 q1 => ((zup_nf q0).trans ((hfr _ q0 q1).trans rfl))) (by omega) ⟨hi.1, by omega⟩ hf hDb (fun y hy x hx => by
          by_cases e : y = i ∧ x = t
          · obtain ⟨e1, e2⟩ := e
            subst e1 e2
            rw [zfu_self, if_pos (by omega), hf]
            by_cases e3 : y = c9
            · subst e3; rw [if_pos rfl, if_pos rfl, Int.zero_mul, Int.sub_zero]; exact Int.emod_eq_of_lt b182.1 b182.2
            · rw [if_neg e3, if_neg e3]
          · rw [zfu_ne (by omega)]
            exact (hu y hy x hx).trans (zif_iff (by omega))) kk219
set_option maxHeartbeats 4000000 in
set_option maxRecDepth 100000 in
theorem m_X10_solve_63 {n0 n k : Nat} {g : Nat → zV} {h : zHp} {Q : Option zV → Nat → Nat → zHp → Prop} {m z c : Nat} {P : pT} {fk cn ln en ax nu wr sv sp ss : Int} {kx : Nat} {xs ys ch wa sy ua cu : Nat → Int} (hM : h m = some (.inl (11, mOb m P.1 (P.2.1 : Int) fk (z : Int) (c : Int) cn ln en ax nu wr sv sp ss))) (a1 : h (m + 1) = some (.inr (.inl (0, 8, xs)))) (a2 : h (m + 2) = some (.inr (.inl (0, 8, ys)))) (a3 : h (m + 3) = some (.inr (.inl (0, 81, cu)))) (ac : h (m + 18) = some (.inr (.inl (0, 288, ch)))) (aw : h (m + 21) = some (.inr (.inl (0, 8, wa)))) (as : h (m + 22) = some (.inr (.inl (0, 72, sy)))) (au : h (m + 23) = some (.inr (.inl (0, 8, ua)))) (hP : pwf P) (hB : n0 ≤ m) (p2 : ∀ k, k < P.2.1 → xs k = P.2.2.1 k ∧ ys k = P.2.2.2.1 k) (hkx : kx < 32) (hch : ∀ i, i < 9 → ch (9 * kx + i) = ((pB P kx).1 i : Int)) (hwa : ∀ q, q < P.2.1 → 0 ≤ wa q ∧ wa q < P.1)  : ∀ (d : Nat) (c9 : Nat) (B40 : Nat → Int) (ua1 : Nat → Int) (t : Nat) (u : Nat → Int) (L3 : Option zV) (L6 : Option zV) (L7 : Option zV), P.2.1 + 1 - t = d → ∀ h1 : zHp, h1 (m + 22) = some (.inr (.inl (0, 72, u))) → h1 (m + 23) = some (.inr (.inl (0, 8, ua1))) → (∀ q : Nat, q ≠ (m + 22) → q ≠ (m + 23) → h1 q = h q) → (c9 < P.2.1) → (t ≤ P.2.1 + 1) → (∀ y, y < P.2.1 → ∀ x, x ≤ P.2.1 → 0 ≤ B40 (9 * y + x) ∧ B40 (9 * y + x) < P.1) → (0 ≤ (zinv P.1 (B40 (9 * c9 + c9))) ∧ (zinv P.1 (B40 (9 * c9 + c9))) < P.1) → (∀ y, y < P.2.1 → ∀ x, x ≤ P.2.1 → u (9 * y + x) = if y = c9 ∧ x < t then B40 (9 * c9 + x) * (zinv P.1 (B40 (9 * c9 + c9))) % P.1 else B40 (9 * y + x)) → (∀ (D : Nat → Int) (h' : zHp), (∀ x, x ≤ P.2.1 → D (9 * c9 + x) = B40 (9 * c9 + x) * (zinv P.1 (B40 (9 * c9 + c9))) % P.1) → (∀ i, i < P.2.1 → i ≠ c9 → ∀ x, x ≤ P.2.1 → D (9 * i + x) = B40 (9 * i + x)) → h' (m + 22) = some (.inr (.inl (0, 72, D))) → h' (m + 23) = some (.inr (.inl (0, 8, ua1))) → (∀ q : Nat, q ≠ (m + 22) → q ≠ (m + 23) → h' q = h q) → ZT n0 g mX10_solve 110 [some (.inr (some m)), some (.inl (kx : Int)), some (.inl (c9 : Int)), L3, some (.inl (zinv P.1 (B40 (9 * c9 + c9)))), some (.inl ((P.2.1 + 1) : Int)), L6, L7] [] n k h' Q) → ZT n0 g mX10_solve 63 [some (.inr (some m)), some (.inl (kx : Int)), some (.inl (c9 : Int)), L3, some (.inl (zinv P.1 (B40 (9 * c9 + c9)))), some (.inl (t : Int)), L6, L7] [] n k h1 Q := by
  intro d
  induction d using Nat.strongRecOn with | _ d ih => ?_
  intro c9 B40 ua1 t u L3 L6 L7 hd0 h1 m1 m2 hfr hc ht hBb hby hu kk110
  subst hd0
  have hpb := hP.bd
  have hs8 := hP.2.1
  refine T_iload dX10_solve_63 rfl ?_
  refine T_aload_n dX10_solve_65 rfl ?_
  refine T_getfield dX10_solve_66 zkf_11_111 ((hfr _ (by omega) (by omega)).trans hM) rfl ?_
  refine T_icmp_gt dX10_solve_69 (t := 110) rfl (fun c69 => ?_) (fun c69 => ?_)
  · have et : t = P.2.1 + 1 := by omega
    subst et
    exact kk110 _ _ (fun x hx => by rw [hu c9 (by omega) x hx, if_pos ⟨rfl, by omega⟩]) (fun i hi hne x hx => by rw [hu i hi x hx, if_neg (by omega)]) m1 m2 (fun q q0 q1 => ((hfr _ q0 q1).trans rfl))
  · refine T_aload_n dX10_solve_72 rfl ?_
    refine T_getfield dX10_solve_73 zkf_11_78 ((hfr _ (by omega) (by omega)).trans hM) rfl ?_
    refine T_bipush dX10_solve_76 (by decide) ?_
    refine T_iload_n dX10_solve_78 rfl ?_
    refine T_imul dX10_solve_79 ⟨by omega, by omega⟩ ?_
    refine T_iload dX10_solve_80 rfl ?_
    refine T_iadd dX10_solve_82 ⟨by omega, by omega⟩ ?_
    refine T_aload_n dX10_solve_83 rfl ?_
    refine T_getfield dX10_solve_84 zkf_11_78 ((hfr _ (by omega) (by omega)).trans hM) rfl ?_
    refine T_bipush dX10_solve_87 (by decide) ?_
    refine T_iload_n dX10_solve_89 rfl ?_
    refine T_imul dX10_solve_90 ⟨by omega, by omega⟩ ?_
    refine T_iload dX10_solve_91 rfl ?_
    refine T_iadd dX10_solve_93 ⟨by omega, by omega⟩ ?_
    refine T_ialoadN (m := (9 * c9 + t)) dX10_solve_94 m1 (by omega) (by omega) ?_
    refine T_iload dX10_solve_95 rfl ?_
    have e97 : u (9 * c9 + t) = B40 (9 * c9 + t) := by rw [hu c9 (by omega) t (by omega), if_neg (by omega)]
    have b97 := hBb c9 (by omega) t (by omega)
    rw [e97]
    have m97 := zmul_le b97.1 (show _ ≤ (32 : Int) by omega) hby.1 (show _ ≤ (32 : Int) by omega)
    refine T_imul dX10_solve_97 (zmulR (by omega) (by omega) (by omega) (by omega)) ?_
    refine T_aload_n dX10_solve_98 rfl ?_
    refine T_getfield dX10_solve_99 zkf_11_7 ((hfr _ (by omega) (by omega)).trans hM) rfl ?_
    refine T_iremN dX10_solve_102 ⟨by omega, by omega⟩ (by omega) ?_
    have r102 := zmod_bd ((B40 (9 * c9 + t)) * (zinv P.1 (B40 (9 * c9 + c9)))) P.1 (by omega)
    refine T_iastoreN (m := (9 * c9 + t)) dX10_solve_103 m1 (by omega) (by omega) (by omega) ?_
    refine T_iinc dX10_solve_104 rfl ⟨by omega, by omega⟩ ?_
    refine T_goto dX10_solve_107 (t := 63) rfl ?_
    exact ih _ (by omega) c9 B40 ua1 (t + 1) _ _ _ _ rfl _ zup_self (zup_ne (by omega) m2) (fun q q0 q1 => ((zup_nf q0).trans ((hfr _ q0 q1).trans rfl))) (by omega) (by omega) hBb hby (fun y hy x hx => by
          by_cases e : y = c9 ∧ x = t
          · rw [e.1, e.2, zfu_self, if_pos ⟨rfl, by omega⟩]
          · rw [zfu_ne (by omega), hu y hy x hx]
            by_cases e2 : y = c9 ∧ x < t
            · rw [if_pos e2, if_pos ⟨e2.1, by omega⟩]
            · rw [if_neg e2, if_neg (by omega)]) kk110
set_option maxHeartbeats 4000000 in
set_option maxRecDepth 100000 in
theorem m_X10_solve_17 {n0 n k : Nat} {g : Nat → zV} {h : zHp} {Q : Option zV → Nat → Nat → zHp → Prop} {m z c : Nat} {P : pT} {fk cn ln en ax nu wr sv sp ss : Int} {kx : Nat} {xs ys ch wa sy ua cu : Nat → Int} (hM : h m = some (.inl (11, mOb m P.1 (P.2.1 : Int) fk (z : Int) (c : Int) cn ln en ax nu wr sv sp ss))) (a1 : h (m + 1) = some (.inr (.inl (0, 8, xs)))) (a2 : h (m + 2) = some (.inr (.inl (0, 8, ys)))) (a3 : h (m + 3) = some (.inr (.inl (0, 81, cu)))) (ac : h (m + 18) = some (.inr (.inl (0, 288, ch)))) (aw : h (m + 21) = some (.inr (.inl (0, 8, wa)))) (as : h (m + 22) = some (.inr (.inl (0, 72, sy)))) (au : h (m + 23) = some (.inr (.inl (0, 8, ua)))) (hP : pwf P) (hB : n0 ≤ m) (p2 : ∀ k, k < P.2.1 → xs k = P.2.2.1 k ∧ ys k = P.2.2.2.1 k) (hkx : kx < 32) (hch : ∀ i, i < 9 → ch (9 * kx + i) = ((pB P kx).1 i : Int)) (hwa : ∀ q, q < P.2.1 → 0 ≤ wa q ∧ wa q < P.1)  : ∀ (d : Nat) (c9 : Nat) (A : Nat → Int) (ua1 : Nat → Int) (r : Nat) (L4 : Option zV) (L5 : Option zV) (L6 : Option zV) (L7 : Option zV), P.2.1 - r = d → ∀ h1 : zHp, h1 (m + 22) = some (.inr (.inl (0, 72, A))) → h1 (m + 23) = some (.inr (.inl (0, 8, ua1))) → (∀ q : Nat, q ≠ (m + 22) → q ≠ (m + 23) → h1 q = h q) → (c9 < P.2.1) → (c9 ≤ r ∧ r < P.2.1) → (∀ y, c9 ≤ y → y < r → A (9 * y + c9) = 0) → (∃ q, c9 ≤ q ∧ q < P.2.1 ∧ A (9 * q + c9) ≠ 0) → (∀ (r : Nat) (h' : zHp), (c9 ≤ r ∧ r < P.2.1) → (A (9 * r + c9) ≠ 0) → h' (m + 22) = some (.inr (.inl (0, 72, A))) → h' (m + 23) = some (.inr (.inl (0, 8, ua1))) → (∀ q : Nat, q ≠ (m + 22) → q ≠ (m + 23) → h' q = h q) → ZT n0 g mX10_solve 37 [some (.inr (some m)), some (.inl (kx : Int)), some (.inl (c9 : Int)), some (.inl (r : Int)), L4, L5, L6, L7] [] n k h' Q) → ZT n0 g mX10_solve 17 [some (.inr (some m)), some (.inl (kx : Int)), some (.inl (c9 : Int)), some (.inl (r : Int)), L4, L5, L6, L7] [] n k h1 Q := by
  intro d
  induction d using Nat.strongRecOn with | _ d ih => ?_
  intro c9 A ua1 r L4 L5 L6 L7 hd0 h1 m1 m2 hfr hc hr hz hpv kk37
  subst hd0
  have hpb := hP.bd
  have hs8 := hP.2.1
  refine T_aload_n dX10_solve_17 rfl ?_
  refine T_getfield dX10_solve_18 zkf_11_78 ((hfr _ (by omega) (by omega)).trans hM) rfl ?_
  refine T_bipush dX10_solve_21 (by decide) ?_
  refine T_iload_n dX10_solve_23 rfl ?_
  refine T_imul dX10_solve_24 ⟨by omega, by omega⟩ ?_
  refine T_iload_n dX10_solve_25 rfl ?_
  refine T_iadd dX10_solve_26 ⟨by omega, by omega⟩ ?_
  refine T_ialoadN (m := (9 * r + c9)) dX10_solve_27 m1 (by omega) (by omega) ?_
  have hnx : A (9 * r + c9) = 0 → r + 1 < P.2.1 := fun q => by
    obtain ⟨y, y1, y2, y3⟩ := hpv
    refine Classical.byContradiction fun hn => ?_
    by_cases e : y = r
    · rw [e] at y3; exact y3 q
    · exact y3 (hz y y1 (by omega))
  refine T_if_ne dX10_solve_28 (t := 37) rfl (fun c28 => ?_) (fun c28 => ?_)
  · exact kk37 r _ hr (by omega) m1 m2 (fun q q0 q1 => ((hfr _ q0 q1).trans rfl))
  · refine T_iinc dX10_solve_31 rfl ⟨by omega, by omega⟩ ?_
    refine T_goto dX10_solve_34 (t := 17) rfl ?_
    exact ih _ (by omega) c9 A ua1 (r + 1) _ _ _ _ rfl _ m1 m2 (fun q q0 q1 => ((hfr _ q0 q1).trans rfl)) (by omega) (by have := hnx (by omega); omega) (fun y a b => by
          by_cases e : y = r
          · rw [e]; omega
          · exact hz y a (by omega)) hpv kk37
set_option maxHeartbeats 4000000 in
set_option maxRecDepth 100000 in
theorem m_X10_solve_7 {n0 n k : Nat} {g : Nat → zV} {h : zHp} {Q : Option zV → Nat → Nat → zHp → Prop} {m z c : Nat} {P : pT} {fk cn ln en ax nu wr sv sp ss : Int} {kx : Nat} {xs ys ch wa sy ua cu : Nat → Int} (hM : h m = some (.inl (11, mOb m P.1 (P.2.1 : Int) fk (z : Int) (c : Int) cn ln en ax nu wr sv sp ss))) (a1 : h (m + 1) = some (.inr (.inl (0, 8, xs)))) (a2 : h (m + 2) = some (.inr (.inl (0, 8, ys)))) (a3 : h (m + 3) = some (.inr (.inl (0, 81, cu)))) (ac : h (m + 18) = some (.inr (.inl (0, 288, ch)))) (aw : h (m + 21) = some (.inr (.inl (0, 8, wa)))) (as : h (m + 22) = some (.inr (.inl (0, 72, sy)))) (au : h (m + 23) = some (.inr (.inl (0, 8, ua)))) (hP : pwf P) (hB : n0 ≤ m) (p2 : ∀ k, k < P.2.1 → xs k = P.2.2.1 k ∧ ys k = P.2.2.2.1 k) (hkx : kx < 32) (hch : ∀ i, i < 9 → ch (9 * kx + i) = ((pB P kx).1 i : Int)) (hwa : ∀ q, q < P.2.1 → 0 ≤ wa q ∧ wa q < P.1) (hQ : ∀ (C cu' sy' ua' : Nat → Int) (h' : zHp), (zint P (pB P kx).1 wa C) → (∀ x, x < 81 → cu' x = C x) → h' (m + 3) = some (.inr (.inl (0, 81, cu'))) → h' (m + 22) = some (.inr (.inl (0, 72, sy'))) → h' (m + 23) = some (.inr (.inl (0, 8, ua'))) → (∀ q : Nat, q ≠ (m + 3) → q ≠ (m + 22) → q ≠ (m + 23) → h' q = h q) → Q (some (.inl (znz C 81 : Int))) n k h') : ∀ (d : Nat) (c9 : Nat) (un : Nat → Nat) (A0 : Nat → Int) (A : Nat → Int) (ua1 : Nat → Int) (L3 : Option zV) (L4 : Option zV) (L5 : Option zV) (L6 : Option zV) (L7 : Option zV), P.2.1 - c9 = d → ∀ h1 : zHp, h1 (m + 22) = some (.inr (.inl (0, 72, A))) → h1 (m + 23) = some (.inr (.inl (0, 8, ua1))) → (∀ q : Nat, q ≠ (m + 22) → q ≠ (m + 23) → h1 q = h q) → (c9 ≤ P.2.1) → (GJ P.1 P.2.1 (c9) A0 A) → (zls P kx P.2.1 un) → (∀ t, t < P.2.1 → ua1 t = (un t : Int)) → (∀ q, q < P.2.1 → ∀ t, t < P.2.1 → A0 (9 * q + t) = zvec P.1 P.2.2.1 P.2.2.2.1 (un t) q) → (∀ q, q < P.2.1 → A0 (9 * q + P.2.1) = wa q) → ZT n0 g mX10_solve 7 [some (.inr (some m)), some (.inl (kx : Int)), some (.inl (c9 : Int)), L3, L4, L5, L6, L7] [] n k h1 Q := by
  intro d
  induction d using Nat.strongRecOn with | _ d ih => ?_
  intro c9 un A0 A ua1 L3 L4 L5 L6 L7 hd0 h1 m1 m2 hfr hc hG hls hua hA0 hW0
  subst hd0
  have hpb := hP.bd
  have hs8 := hP.2.1
  refine T_iload_n dX10_solve_7 rfl ?_
  refine T_aload_n dX10_solve_8 rfl ?_
  refine T_getfield dX10_solve_9 zkf_11_111 ((hfr _ (by omega) (by omega)).trans hM) rfl ?_
  refine T_icmp_ge dX10_solve_12 (t := 225) rfl (fun c12 => ?_) (fun c12 => ?_)
  · have ec : c9 = P.2.1 := by omega
    subst ec
    refine T_aload_n dX10_solve_225 rfl ?_
    refine T_callV dX10_solve_226 zkm_11_126 (Or.inl rfl) rfl ((hfr _ (by omega) (by omega)).trans hM) ⟨Nat.le_of_ble_eq_true rfl, rfl⟩ rfl (Nat.le_of_ble_eq_true rfl) ?_
    refine m_X10_clearCurrent ((hfr _ (by omega) (by omega)).trans hM) ((hfr _ (by omega) (by omega)).trans a3) (by omega) (fun cu'226 hh226 k226a f226a fr226 => ?_)
    refine T_iconst dX10_solve_229 (by decide) ?_
    refine T_istore_n dX10_solve_230 (Nat.le_of_ble_eq_true rfl) ?_
    exact m_X10_solve_231 hM a1 a2 a3 ac aw as au hP hB p2 hkx hch hwa hQ _ 0 cu'226 un A0 A ua1 _ _ _ _ _ rfl _ f226a ((fr226 _ (by omega)).trans m1) ((fr226 _ (by omega)).trans m2) (fun q q0 q1 q2 => ((fr226 _ q0).trans ((hfr _ q1 q2).trans rfl))) (by omega) hG hls hua hA0 hW0 (fun x hx => k226a x hx) 
  · refine T_iload_n dX10_solve_15 rfl ?_
    refine T_istore_n dX10_solve_16 (Nat.le_of_ble_eq_true rfl) ?_
    refine m_X10_solve_17 hM a1 a2 a3 ac aw as au hP hB p2 hkx hch hwa _ c9 A ua1 c9 _ _ _ _ rfl _ m1 m2 (fun q q0 q1 => ((hfr _ q0 q1).trans rfl)) (by omega) (by omega) (fun y a b => by omega) (hG.pivot hP.1 (hls.ker hP hA0) (by omega)) (fun r37 hh37 hr_37 hne_37 m1_37 m2_37 fr_37 => ?_)
    refine T_aload_n dX10_solve_37 rfl ?_
    refine T_iload_n dX10_solve_38 rfl ?_
    refine T_iload_n dX10_solve_39 rfl ?_
    refine T_callV dX10_solve_40 zkm_11_239 (Or.inl rfl) rfl ((fr_37 _ (by omega) (by omega)).trans hM) ⟨Nat.le_of_ble_eq_true rfl, rfl⟩ rfl (Nat.le_of_ble_eq_true rfl) ?_
    refine m_X10_exchange ((fr_37 _ (by omega) (by omega)).trans hM) m1_37 hs8 hB (by omega) (fun B40 hh40 k40a k40b f40a fr40 => ?_)
    have hBb : ∀ y, y < P.2.1 → ∀ x, x ≤ P.2.1 → 0 ≤ B40 (9 * y + x) ∧ B40 (9 * y + x) < P.1 := fun y hy x hx => by
      by_cases e1 : y = c9
      · rw [e1, (k40a x hx).2]; exact hG.1 _ hr_37.2 x hx
      · by_cases e2 : y = r37
        · rw [e2, (k40a x hx).1]; exact hG.1 _ (by omega) x hx
        · rw [k40b y hy e2 e1 x hx]; exact hG.1 y hy x hx
    have hpv := hBb c9 (by omega) c9 (by omega)
    have hpn : B40 (9 * c9 + c9) ≠ 0 := by rw [(k40a c9 (by omega)).2]; exact hne_37
    have hz3 := zinv_spec (v := B40 (9 * c9 + c9)) hP.1 (by omega) hpv.2
    refine T_aload_n dX10_solve_43 rfl ?_
    refine T_aload_n dX10_solve_44 rfl ?_
    refine T_getfield dX10_solve_45 zkf_11_78 ((fr40 _ (by omega)).trans ((fr_37 _ (by omega) (by omega)).trans hM)) rfl ?_
    refine T_bipush dX10_solve_48 (by decide) ?_
    refine T_iload_n dX10_solve_50 rfl ?_
    refine T_imul dX10_solve_51 ⟨by omega, by omega⟩ ?_
    refine T_iload_n dX10_solve_52 rfl ?_
    refine T_iadd dX10_solve_53 ⟨by omega, by omega⟩ ?_
    refine T_ialoadN (m := (9 * c9 + c9)) dX10_solve_54 f40a (by omega) (by omega) ?_
    refine T_callV dX10_solve_55 zkm_11_148 (Or.inl rfl) rfl ((fr40 _ (by omega)).trans ((fr_37 _ (by omega) (by omega)).trans hM)) ⟨Nat.le_of_ble_eq_true rfl, rfl⟩ rfl (Nat.le_of_ble_eq_true rfl) ?_
    refine m_X10_inverse ((fr40 _ (by omega)).trans ((fr_37 _ (by omega) (by omega)).trans hM)) hP.1 (by omega) ?_
    refine T_istore dX10_solve_58 (Nat.le_of_ble_eq_true rfl) ?_
    refine T_iconst dX10_solve_60 (by decide) ?_
    refine T_istore dX10_solve_61 (Nat.le_of_ble_eq_true rfl) ?_
    refine m_X10_solve_63 hM a1 a2 a3 ac aw as au hP hB p2 hkx hch hwa _ c9 B40 ua1 0 B40 _ _ _ rfl _ f40a ((fr40 _ (by omega)).trans m2_37) (fun q q0 q1 => ((fr40 _ q0).trans ((fr_37 _ q0 q1).trans rfl))) (by omega) (by omega) hBb ⟨by omega, by omega⟩ (fun y hy x hx => by rw [if_neg (by omega)]) (fun D110 hh110 h2_110 h2b_110 m1_110 m2_110 fr_110 => ?_)
    have hDb : ∀ y, y < P.2.1 → ∀ x, x ≤ P.2.1 → 0 ≤ D110 (9 * y + x) ∧ D110 (9 * y + x) < P.1 := fun y hy x hx => by
      by_cases e1 : y = c9
      · rw [e1, h2_110 x hx]; exact zmod_bd _ _ (by omega)
      · rw [h2b_110 y hy e1 x hx]; exact hBb y hy x hx
    refine T_iconst dX10_solve_110 (by decide) ?_
    refine T_istore dX10_solve_111 (Nat.le_of_ble_eq_true rfl) ?_
    refine T_iload dX10_solve_113 rfl ?_
    refine T_aload_n dX10_solve_115 rfl ?_
    refine T_getfield dX10_solve_116 zkf_11_111 ((fr_110 _ (by omega) (by omega)).trans hM) rfl ?_
    refine T_icmp_ge dX10_solve_119 (t := 219) rfl (fun hc => absurd hc (by omega)) (fun _ => ?_)
    refine T_iload dX10_solve_122 rfl ?_
    refine T_iload_n dX10_solve_124 rfl ?_
    refine T_icmp_ne dX10_solve_125 (t := 132) rfl (fun c125 => ?_) (fun c125 => ?_)
    · refine T_aload_n dX10_solve_132 rfl ?_
      refine T_getfield dX10_solve_133 zkf_11_78 ((fr_110 _ (by omega) (by omega)).trans hM) rfl ?_
      refine T_bipush dX10_solve_136 (by decide) ?_
      refine T_iload dX10_solve_138 rfl ?_
      refine T_imul dX10_solve_140 ⟨by omega, by omega⟩ ?_
      refine T_iload_n dX10_solve_141 rfl ?_
      refine T_iadd dX10_solve_142 ⟨by omega, by omega⟩ ?_
      refine T_ialoadN (m := ((9 * 0) + c9)) dX10_solve_143 m1_110 (by omega) (by omega) ?_
      refine T_istore dX10_solve_144 (Nat.le_of_ble_eq_true rfl) ?_
      refine T_iconst dX10_solve_146 (by decide) ?_
      refine T_istore dX10_solve_147 (Nat.le_of_ble_eq_true rfl) ?_
      refine m_X10_solve_149 hM a1 a2 a3 ac aw as au hP hB p2 hkx hch hwa _ c9 D110 ua1 0 0 (D110 ((9 * 0) + c9)) D110 _ _ rfl _ m1_110 m2_110 (fun q q0 q1 => ((fr_110 _ q0 q1).trans rfl)) (by omega) ⟨by omega, by omega⟩ (by first | (rw [if_pos (by omega)]) | (rw [if_neg (by omega)])) hDb (fun y hy x hx => by rw [if_neg (by omega)]) (fun G219 L5219 L6219 L7219 hh219 h3_219 m1_219 m2_219 fr_219 => ?_)
      refine T_iinc dX10_solve_219 rfl ⟨by omega, by omega⟩ ?_
      refine T_goto dX10_solve_222 (t := 7) rfl ?_
      exact ih _ (by omega) (c9 + 1) un A0 G219 ua1 _ _ _ _ _ rfl _ m1_219 m2_219 (fun q q0 q1 => ((fr_219 _ q0 q1).trans rfl)) (by omega) (hG.step hP.1 (by omega) hr_37 hne_37 k40a k40b h2_110 h2b_110 h3_219) hls hua hA0 hW0 
    · refine T_iconst dX10_solve_128 (by decide) ?_
      refine T_goto dX10_solve_129 (t := 144) rfl ?_
      refine T_istore dX10_solve_144 (Nat.le_of_ble_eq_true rfl) ?_
      refine T_iconst dX10_solve_146 (by decide) ?_
      refine T_istore dX10_solve_147 (Nat.le_of_ble_eq_true rfl) ?_
      refine m_X10_solve_149 hM a1 a2 a3 ac aw as au hP hB p2 hkx hch hwa _ c9 D110 ua1 0 0 0 D110 _ _ rfl _ m1_110 m2_110 (fun q q0 q1 => ((fr_110 _ q0 q1).trans rfl)) (by omega) ⟨by omega, by omega⟩ (by first | (rw [if_pos (by omega)]) | (rw [if_neg (by omega)])) hDb (fun y hy x hx => by rw [if_neg (by omega)]) (fun G219 L5219 L6219 L7219 hh219 h3_219 m1_219 m2_219 fr_219 => ?_)
      refine T_iinc dX10_solve_219 rfl ⟨by omega, by omega⟩ ?_
      refine T_goto dX10_solve_222 (t := 7) rfl ?_
      exact ih _ (by omega) (c9 + 1) un A0 G219 ua1 _ _ _ _ _ rfl _ m1_219 m2_219 (fun q q0 q1 => ((fr_219 _ q0 q1).trans rfl)) (by omega) (hG.step hP.1 (by omega) hr_37 hne_37 k40a k40b h2_110 h2b_110 h3_219) hls hua hA0 hW0 
set_option maxHeartbeats 4000000 in
set_option maxRecDepth 100000 in
theorem m_X10_solve {n0 n k : Nat} {g : Nat → zV} {h : zHp} {Q : Option zV → Nat → Nat → zHp → Prop} {m z c : Nat} {P : pT} {fk cn ln en ax nu wr sv sp ss : Int} {kx : Nat} {xs ys ch wa sy ua cu : Nat → Int} (hM : h m = some (.inl (11, mOb m P.1 (P.2.1 : Int) fk (z : Int) (c : Int) cn ln en ax nu wr sv sp ss))) (a1 : h (m + 1) = some (.inr (.inl (0, 8, xs)))) (a2 : h (m + 2) = some (.inr (.inl (0, 8, ys)))) (a3 : h (m + 3) = some (.inr (.inl (0, 81, cu)))) (ac : h (m + 18) = some (.inr (.inl (0, 288, ch)))) (aw : h (m + 21) = some (.inr (.inl (0, 8, wa)))) (as : h (m + 22) = some (.inr (.inl (0, 72, sy)))) (au : h (m + 23) = some (.inr (.inl (0, 8, ua)))) (hP : pwf P) (hB : n0 ≤ m) (p2 : ∀ k, k < P.2.1 → xs k = P.2.2.1 k ∧ ys k = P.2.2.2.1 k) (hkx : kx < 32) (hch : ∀ i, i < 9 → ch (9 * kx + i) = ((pB P kx).1 i : Int)) (hwa : ∀ q, q < P.2.1 → 0 ≤ wa q ∧ wa q < P.1) (hQ : ∀ (C cu' sy' ua' : Nat → Int) (h' : zHp), (zint P (pB P kx).1 wa C) → (∀ x, x < 81 → cu' x = C x) → h' (m + 3) = some (.inr (.inl (0, 81, cu'))) → h' (m + 22) = some (.inr (.inl (0, 72, sy'))) → h' (m + 23) = some (.inr (.inl (0, 8, ua'))) → (∀ q : Nat, q ≠ (m + 3) → q ≠ (m + 22) → q ≠ (m + 23) → h' q = h q) → Q (some (.inl (znz C 81 : Int))) n k h') : ZT n0 g mX10_solve 0 (zloc mX10_solve [.inr (some m), .inl (kx : Int)]) [] n k h Q := by
  show ZT n0 g mX10_solve 0 [some (.inr (some m)), some (.inl (kx : Int)), none, none, none, none, none, none] [] n k h Q
  have hpb := hP.bd
  have hs8 := hP.2.1
  refine T_aload_n dX10_solve_0 rfl ?_
  refine T_iload_n dX10_solve_1 rfl ?_
  refine T_callV dX10_solve_2 zkm_11_236 (Or.inl rfl) rfl hM ⟨Nat.le_of_ble_eq_true rfl, rfl⟩ rfl (Nat.le_of_ble_eq_true rfl) ?_
  refine m_X10_setUp hM a1 a2 ac aw as au hP hB (by omega) (by omega) (by omega) (fun un2 A02 ua'2 hh2 k2a k2b k2c k2d f2a f2b fr2 => ?_)
  refine T_iconst dX10_solve_5 (by decide) ?_
  refine T_istore_n dX10_solve_6 (Nat.le_of_ble_eq_true rfl) ?_
  exact m_X10_solve_7 hM a1 a2 a3 ac aw as au hP hB p2 hkx hch hwa hQ _ 0 un2 A02 A02 _ _ _ _ _ _ rfl _ f2a f2b (fun q q0 q1 => ((fr2 _ q0 q1).trans rfl)) (by omega) (GJ.init (fun r hr x hx => by
        by_cases e : x = P.2.1
        · rw [e, k2d r hr]; exact hwa r hr
        · rw [k2c r hr x (by omega)]; exact zmon_bd hpb.1 _)) k2a k2b k2c k2d 
set_option maxHeartbeats 4000000 in
set_option maxRecDepth 100000 in
theorem m_X10_reduceToNormalForm_12 {n0 n k : Nat} {g : Nat → zV} {h : zHp} {Q : Option zV → Nat → Nat → zHp → Prop} {m : Nat} {P : pT} {L : lT} {I O : tT} {V : Int × pT} {i : Int} (hP : pwf P) (hL : lwf L) (hI : iwf I) (hO : owf O) (hV : vwf V) (hB : n0 ≤ m) (hrf : rfAt h m P L I O V) (hQ : ∀  (h' : zHp), (rfAt h' m (s_nf P i).2 L I O V) → (∀ q : Nat, (q < m ∨ m + 33 ≤ q) → h' q = h q) → Q (some (.inl ((s_nf P i).1))) n k h') : ∀ (d : Nat) (h9 : zHp) (kx : Nat) (q : Nat) (u : Nat → Int), P.2.1 - q = d → ∀ h1 : zHp, (zar h1 (m + 21) 8 u) → (∀ q : Nat, q ≠ m + 21 → h1 q = h9 q) → (rfF 1 h9 m P L I O V) → (∀ q : Nat, (q < m ∨ m + 33 ≤ q) → h9 q = h q) → (kx < pN P) → (q ≤ P.2.1) → (s_nf P i = s_it P kx (fun x => zval P.1 (P.2.2.1 x) (P.2.2.2.1 x) P.2.2.2.2)) → (∀ x, x < q → u x = zval P.1 (P.2.2.1 x) (P.2.2.2.1 x) P.2.2.2.2) → (i = (kx : Int)) → ZT n0 g mX10_reduceToNormalForm 12 [some (.inr (some m)), some (.inl (kx : Int)), some (.inl (q : Int))] [] n k h1 Q := by
  intro d
  induction d using Nat.strongRecOn with | _ d ih => ?_
  intro h9 kx q u hd0 h1 mu jfr pr9 pf9 hkx hq hfn hu hi
  subst hd0
  obtain ⟨z, c, cn, en, ax, nu, sp, ss, hM, rp, rc, rk, rf, ry, ri, ro, rl, rv⟩ := id pr9
  have hpb := hP.bd
  have hs8 := hP.2.1
  obtain ⟨tp, bt, sz, ch, cc, cl, ftp, fbt, fsz, fch, fcc, fcl, fkn⟩ := id rf
  obtain ⟨-, rfl, krf⟩ := fkn.resolve_left (by decide)
  have hNi := pN_is hP
  have hN1 := hNi.1
  have hN23 := hNi.2.1
  obtain ⟨xs, ys, p0, p1, p2⟩ := id rp
  obtain ⟨cu, c0, c1⟩ := id rc
  obtain ⟨wa, sy, un, y0, y1, y2⟩ := id ry
  obtain ⟨r0, r1, r2, r3, r4⟩ := krf kx hkx
  have hfn9 := hfn
  refine T_iload_n dX10_reduceToNormalForm_12 rfl ?_
  refine T_aload_n dX10_reduceToNormalForm_13 rfl ?_
  refine T_getfield dX10_reduceToNormalForm_14 zkf_11_111 ((jfr _ (by omega)).trans hM) rfl ?_
  refine T_icmp_ge dX10_reduceToNormalForm_17 (t := 37) rfl (fun c17 => ?_) (fun c17 => ?_)
  · refine T_aload_n dX10_reduceToNormalForm_37 rfl ?_
    refine T_iload_n dX10_reduceToNormalForm_38 rfl ?_
    refine T_callV dX10_reduceToNormalForm_39 zkm_11_246 (Or.inl rfl) rfl ((jfr _ (by omega)).trans hM) ⟨Nat.le_of_ble_eq_true rfl, rfl⟩ rfl (Nat.le_of_ble_eq_true rfl) ?_
    refine m_X10_solve ((jfr _ (by omega)).trans hM) ((jfr _ (by omega)).trans p0) ((jfr _ (by omega)).trans p1) ((jfr _ (by omega)).trans c0) ((jfr _ (by omega)).trans fch) mu ((jfr _ (by omega)).trans y1) ((jfr _ (by omega)).trans y2) hP hB p2 (by omega) r1 (fun x hx => by rw [hu x (by omega)]; exact zmod_bd _ _ (by omega)) (fun C39 cu'39 sy'39 ua'39 hh39 k39a k39b f39a f39b f39c fr39 => ?_)
    refine T_iret dX10_reduceToNormalForm_42 rfl ?_
    have hz2 : zint P (pB P kx).1 (fun x => zval P.1 (P.2.2.1 x) (P.2.2.2.1 x) P.2.2.2.2) C39 := ⟨k39a.1, k39a.2.1, fun x hx => (k39a.2.2 x hx).trans (hu x (by omega))⟩
    rw [hfn, s_it_eq hP hz2] at hQ
    exact hQ _ ⟨1, z, c, _, en, ax, nu, sp, ss, ((fr39 _ (by omega) (by omega) (by omega)).trans ((jfr _ (by omega)).trans hM)), (rp.frame (fun q a1 a2 => ((fr39 _ (by omega) (by omega) (by omega)).trans (((jfr _ (by omega)).trans (rfl)))))), ⟨_, f39a, k39b⟩, (rk.frame (fun q a1 a2 => ((fr39 _ (by omega) (by omega) (by omega)).trans (((jfr _ (by omega)).trans (rfl)))))), ((rf.frame (fun q a1 a2 => ((fr39 _ (by omega) (by omega) (by omega)).trans (((jfr _ (by omega)).trans (rfl)))))).cur _), ⟨_, _, _, ((fr39 _ (by omega) (by omega) (by omega)).trans mu), f39b, f39c⟩, (ri.frame (fun q a1 a2 => ((fr39 _ (by omega) (by omega) (by omega)).trans (((jfr _ (by omega)).trans (rfl)))))), (ro.frame (fun q a1 a2 => ((fr39 _ (by omega) (by omega) (by omega)).trans (((jfr _ (by omega)).trans (rfl)))))), (rl.frame (fun q a1 a2 => ((fr39 _ (by omega) (by omega) (by omega)).trans (((jfr _ (by omega)).trans (rfl)))))), (rv.frame (fun q a1 a2 => ((fr39 _ (by omega) (by omega) (by omega)).trans (((jfr _ (by omega)).trans (rfl))))))⟩ (fun q a1 => ((fr39 _ (by omega) (by omega) (by omega)).trans (((jfr _ (by omega)).trans (pf9 q a1)))))
  · refine T_aload_n dX10_reduceToNormalForm_20 rfl ?_
    refine T_getfield dX10_reduceToNormalForm_21 zkf_11_75 ((jfr _ (by omega)).trans hM) rfl ?_
    refine T_iload_n dX10_reduceToNormalForm_24 rfl ?_
    refine T_aload_n dX10_reduceToNormalForm_25 rfl ?_
    refine T_iload_n dX10_reduceToNormalForm_26 rfl ?_
    refine T_callV dX10_reduceToNormalForm_27 zkm_11_233 (Or.inl rfl) rfl ((jfr _ (by omega)).trans hM) ⟨Nat.le_of_ble_eq_true rfl, rfl⟩ rfl (Nat.le_of_ble_eq_true rfl) ?_
    refine m_X10_valueAt  hP hL hI hO hV hB (⟨1, z, c, _, en, ax, nu, sp, ss, ((jfr _ (by omega)).trans hM), (rp.frame (fun q a1 a2 => ((jfr _ (by omega)).trans (rfl)))), (rc.frame (fun q a1 a2 => ((jfr _ (by omega)).trans (rfl)))), (rk.frame (fun q a1 a2 => ((jfr _ (by omega)).trans (rfl)))), (rf.frame (fun q a1 a2 => ((jfr _ (by omega)).trans (rfl)))), ⟨_, _, _, mu, ((jfr _ (by omega)).trans y1), ((jfr _ (by omega)).trans y2)⟩, (ri.frame (fun q a1 a2 => ((jfr _ (by omega)).trans (rfl)))), (ro.frame (fun q a1 a2 => ((jfr _ (by omega)).trans (rfl)))), (rl.frame (fun q a1 a2 => ((jfr _ (by omega)).trans (rfl)))), (rv.frame (fun q a1 a2 => ((jfr _ (by omega)).trans (rfl))))⟩) (by omega) ?_
    refine T_iastoreN (m := q) dX10_reduceToNormalForm_30 mu rfl (by omega) (by omega) ?_
    refine T_iinc dX10_reduceToNormalForm_31 rfl ⟨by omega, by omega⟩ ?_
    refine T_goto dX10_reduceToNormalForm_34 (t := 12) rfl ?_
    exact ih _ (by omega) h9 kx (q + 1) _ rfl _ zup_self (fun q q1 => ((zup_nf (by omega)).trans (((jfr _ (by omega)).trans (rfl))))) pr9 pf9 hkx (by omega) hfn (fun x hx => by
          by_cases e9 : x = q
          · rw [e9, zfu_self]
          · rw [zfu_ne e9]; exact hu x (by omega)) hi 
set_option maxHeartbeats 4000000 in
set_option maxRecDepth 100000 in
theorem m_X10_reduceToNormalForm {n0 n k : Nat} {g : Nat → zV} {h : zHp} {Q : Option zV → Nat → Nat → zHp → Prop} {m : Nat} {P : pT} {L : lT} {I O : tT} {V : Int × pT} {i : Int} (hP : pwf P) (hL : lwf L) (hI : iwf I) (hO : owf O) (hV : vwf V) (hB : n0 ≤ m) (hrf : rfAt h m P L I O V) (hQ : ∀  (h' : zHp), (rfAt h' m (s_nf P i).2 L I O V) → (∀ q : Nat, (q < m ∨ m + 33 ≤ q) → h' q = h q) → Q (some (.inl ((s_nf P i).1))) n k h') : ZT n0 g mX10_reduceToNormalForm 0 (zloc mX10_reduceToNormalForm [.inr (some m), .inl i]) [] n k h Q := by
  show ZT n0 g mX10_reduceToNormalForm 0 [some (.inr (some m)), some (.inl i), none] [] n k h Q
  obtain ⟨fk, z, c, cn, en, ax, nu, sp, ss, hM, rp, rc, rk, rf, ry, ri, ro, rl, rv⟩ := id hrf
  have hpb := hP.bd
  have hs8 := hP.2.1
  refine T_aload_n dX10_reduceToNormalForm_0 rfl ?_
  refine T_iload_n dX10_reduceToNormalForm_1 rfl ?_
  refine T_callV dX10_reduceToNormalForm_2 zkm_11_204 (Or.inl rfl) rfl hM ⟨Nat.le_of_ble_eq_true rfl, rfl⟩ rfl (Nat.le_of_ble_eq_true rfl) ?_
  refine m_X10_isCone  hP hL hI hO hV hB hrf (fun hh2 k2a pr_2 pf_2 => ?_) (fun hh2 k2a_2 pr_2_2 pf_2_2 => ?_)
  · obtain ⟨z, c, cn, en, ax, nu, sp, ss, hM, rp, rc, rk, rf, ry, ri, ro, rl, rv⟩ := id pr_2
    have hpb := hP.bd
    have hs8 := hP.2.1
    obtain ⟨tp, bt, sz, ch, cc, cl, ftp, fbt, fsz, fch, fcc, fcl, fkn⟩ := id rf
    obtain ⟨-, rfl, krf⟩ := fkn.resolve_left (by decide)
    have hNi := pN_is hP
    have hN1 := hNi.1
    have hN23 := hNi.2.1
    obtain ⟨wa, sy, un, y0, y1, y2⟩ := id ry
    obtain ⟨j, rfl⟩ := Int.eq_ofNat_of_zero_le k2a.1
    have hj : j < pN P := by omega
    obtain ⟨r0, r1, r2, r3, r4⟩ := krf j hj
    have dB := pB_facts hP j
    have dW := pW_facts hP j
    refine T_if_ne dX10_reduceToNormalForm_5 (t := 10) rfl (fun _ => ?_) (fun hc => absurd hc (by decide))
    refine T_iconst dX10_reduceToNormalForm_10 (by decide) ?_
    refine T_istore_n dX10_reduceToNormalForm_11 (Nat.le_of_ble_eq_true rfl) ?_
    exact m_X10_reduceToNormalForm_12 hP hL hI hO hV hB hrf hQ _ hh2 j 0 wa rfl _ y0 (fun q q1 => rfl) pr_2 pf_2 hj (by omega) (by unfold s_nf; rw [if_pos (by omega), Int.toNat_natCast]) (fun i hi => absurd hi (Nat.not_lt_zero i)) rfl 
  · obtain ⟨z, c, cn, en, ax, nu, sp, ss, hM, rp, rc, rk, rf, ry, ri, ro, rl, rv⟩ := id pr_2_2
    have hpb := hP.bd
    have hs8 := hP.2.1
    obtain ⟨tp, bt, sz, ch, cc, cl, ftp, fbt, fsz, fch, fcc, fcl, fkn⟩ := id rf
    obtain ⟨-, rfl, krf⟩ := fkn.resolve_left (by decide)
    have hNi := pN_is hP
    have hN1 := hNi.1
    have hN23 := hNi.2.1
    obtain ⟨wa, sy, un, y0, y1, y2⟩ := id ry
    refine T_if_ne dX10_reduceToNormalForm_5 (t := 10) rfl (fun hc => absurd hc (by decide)) (fun _ => ?_)
    refine T_iconst dX10_reduceToNormalForm_8 (by decide) ?_
    refine T_iret dX10_reduceToNormalForm_9 rfl ?_
    have e : s_nf P i = (-1, P) := if_neg k2a_2
    rw [e] at hQ
    exact hQ _ pr_2_2.at pf_2_2
set_option maxHeartbeats 4000000 in
set_option maxRecDepth 100000 in
theorem m_X10_interpolate_62 {n0 n k : Nat} {g : Nat → zV} {h : zHp} {Q : Option zV → Nat → Nat → zHp → Prop} {m : Nat} {P : pT} {L : lT} {I O : tT} {V : Int × pT} {i iv : Int} (hP : pwf P) (hL : lwf L) (hI : iwf I) (hO : owf O) (hV : vwf V) (hB : n0 ≤ m) (hrf : rfAt h m P L I O V) (hQ : ∀  (h' : zHp), (rfAt h' m (s_ip P L i iv).2 L I O V) → (∀ q : Nat, (q < m ∨ m + 33 ≤ q) → h' q = h q) → Q (some (.inl ((s_ip P L i iv).1))) n k h') : ∀ (d : Nat) (h9 : zHp) (kx : Nat) (q : Nat) (u : Nat → Int) (jx : Nat), P.2.1 - q = d → ∀ h1 : zHp, (zar h1 (m + 21) 8 u) → (∀ q : Nat, q ≠ m + 21 → h1 q = h9 q) → (rfF 1 h9 m P L I O V) → (∀ q : Nat, (q < m ∨ m + 33 ≤ q) → h9 q = h q) → (kx < pN P) → (q ≤ P.2.1) → (s_ip P L i iv = s_it P kx (fun x => L.2.2.1 jx x % P.1)) → (∀ x, x < q → u x = L.2.2.1 jx x % P.1) → (i = (kx : Int) ∧ iv = (jx : Int) ∧ jx < 4 ∧ L.1 jx = 1 ∧ L.2.1 jx = P.2.1) → ZT n0 g mX10_interpolate 62 [some (.inr (some m)), some (.inl (kx : Int)), some (.inl (jx : Int)), some (.inl (q : Int))] [] n k h1 Q := by
  intro d
  induction d using Nat.strongRecOn with | _ d ih => ?_
  intro h9 kx q u jx hd0 h1 mu jfr pr9 pf9 hkx hq hfn hu hi
  subst hd0
  obtain ⟨z, c, cn, en, ax, nu, sp, ss, hM, rp, rc, rk, rf, ry, ri, ro, rl, rv⟩ := id pr9
  have hpb := hP.bd
  have hs8 := hP.2.1
  obtain ⟨tp, bt, sz, ch, cc, cl, ftp, fbt, fsz, fch, fcc, fcl, fkn⟩ := id rf
  obtain ⟨-, rfl, krf⟩ := fkn.resolve_left (by decide)
  have hNi := pN_is hP
  have hN1 := hNi.1
  have hN23 := hNi.2.1
  obtain ⟨xs, ys, p0, p1, p2⟩ := id rp
  obtain ⟨cu, c0, c1⟩ := id rc
  obtain ⟨wa, sy, un, y0, y1, y2⟩ := id ry
  obtain ⟨ki, le, el, sto, l0, l1, l2, l3, l4⟩ := id rl
  obtain ⟨r0, r1, r2, r3, r4⟩ := krf kx hkx
  have hfn9 := hfn
  have l41 := (l4 jx hi.2.2.1).2.1 hi.2.2.2.1
  obtain ⟨lw1, lw2, lw3⟩ := hL jx hi.2.2.1
  refine T_iload_n dX10_interpolate_62 rfl ?_
  refine T_aload_n dX10_interpolate_63 rfl ?_
  refine T_getfield dX10_interpolate_64 zkf_11_111 ((jfr _ (by omega)).trans hM) rfl ?_
  refine T_icmp_ge dX10_interpolate_67 (t := 98) rfl (fun c67 => ?_) (fun c67 => ?_)
  · refine T_aload_n dX10_interpolate_98 rfl ?_
    refine T_iload_n dX10_interpolate_99 rfl ?_
    refine T_callV dX10_interpolate_100 zkm_11_246 (Or.inl rfl) rfl ((jfr _ (by omega)).trans hM) ⟨Nat.le_of_ble_eq_true rfl, rfl⟩ rfl (Nat.le_of_ble_eq_true rfl) ?_
    refine m_X10_solve ((jfr _ (by omega)).trans hM) ((jfr _ (by omega)).trans p0) ((jfr _ (by omega)).trans p1) ((jfr _ (by omega)).trans c0) ((jfr _ (by omega)).trans fch) mu ((jfr _ (by omega)).trans y1) ((jfr _ (by omega)).trans y2) hP hB p2 (by omega) r1 (fun x hx => by rw [hu x (by omega)]; exact zmod_bd _ _ (by omega)) (fun C100 cu'100 sy'100 ua'100 hh100 k100a k100b f100a f100b f100c fr100 => ?_)
    refine T_iret dX10_interpolate_103 rfl ?_
    have hz2 : zint P (pB P kx).1 (fun x => L.2.2.1 jx x % P.1) C100 := ⟨k100a.1, k100a.2.1, fun x hx => (k100a.2.2 x hx).trans (hu x (by omega))⟩
    rw [hfn, s_it_eq hP hz2] at hQ
    exact hQ _ ⟨1, z, c, _, en, ax, nu, sp, ss, ((fr100 _ (by omega) (by omega) (by omega)).trans ((jfr _ (by omega)).trans hM)), (rp.frame (fun q a1 a2 => ((fr100 _ (by omega) (by omega) (by omega)).trans (((jfr _ (by omega)).trans (rfl)))))), ⟨_, f100a, k100b⟩, (rk.frame (fun q a1 a2 => ((fr100 _ (by omega) (by omega) (by omega)).trans (((jfr _ (by omega)).trans (rfl)))))), ((rf.frame (fun q a1 a2 => ((fr100 _ (by omega) (by omega) (by omega)).trans (((jfr _ (by omega)).trans (rfl)))))).cur _), ⟨_, _, _, ((fr100 _ (by omega) (by omega) (by omega)).trans mu), f100b, f100c⟩, (ri.frame (fun q a1 a2 => ((fr100 _ (by omega) (by omega) (by omega)).trans (((jfr _ (by omega)).trans (rfl)))))), (ro.frame (fun q a1 a2 => ((fr100 _ (by omega) (by omega) (by omega)).trans (((jfr _ (by omega)).trans (rfl)))))), (rl.frame (fun q a1 a2 => ((fr100 _ (by omega) (by omega) (by omega)).trans (((jfr _ (by omega)).trans (rfl)))))), (rv.frame (fun q a1 a2 => ((fr100 _ (by omega) (by omega) (by omega)).trans (((jfr _ (by omega)).trans (rfl))))))⟩ (fun q a1 => ((fr100 _ (by omega) (by omega) (by omega)).trans (((jfr _ (by omega)).trans (pf9 q a1)))))
  · refine T_aload_n dX10_interpolate_70 rfl ?_
    refine T_getfield dX10_interpolate_71 zkf_11_75 ((jfr _ (by omega)).trans hM) rfl ?_
    refine T_iload_n dX10_interpolate_74 rfl ?_
    refine T_aload_n dX10_interpolate_75 rfl ?_
    refine T_getfield dX10_interpolate_76 zkf_11_96 ((jfr _ (by omega)).trans hM) rfl ?_
    refine T_bipush dX10_interpolate_79 (by decide) ?_
    refine T_iload_n dX10_interpolate_81 rfl ?_
    refine T_imul dX10_interpolate_82 ⟨by omega, by omega⟩ ?_
    refine T_iload_n dX10_interpolate_83 rfl ?_
    refine T_iadd dX10_interpolate_84 ⟨by omega, by omega⟩ ?_
    refine T_ialoadN (m := (20 * jx + q)) dX10_interpolate_85 ((jfr _ (by omega)).trans l2) (by omega) (by omega) ?_
    have lq := l41.2 q (by omega)
    have wq := (lw2 hi.2.2.2.1).2 q (by omega)
    rw [lq]
    refine T_aload_n dX10_interpolate_86 rfl ?_
    refine T_getfield dX10_interpolate_87 zkf_11_7 ((jfr _ (by omega)).trans hM) rfl ?_
    refine T_iremN dX10_interpolate_90 ⟨by omega, by omega⟩ (by omega) ?_
    have r90 := zmod_bd (L.2.2.1 jx q) P.1 (by omega)
    refine T_iastoreN (m := q) dX10_interpolate_91 mu rfl (by omega) (by omega) ?_
    refine T_iinc dX10_interpolate_92 rfl ⟨by omega, by omega⟩ ?_
    refine T_goto dX10_interpolate_95 (t := 62) rfl ?_
    exact ih _ (by omega) h9 kx (q + 1) _ jx rfl _ zup_self (fun q q1 => ((zup_nf (by omega)).trans (((jfr _ (by omega)).trans (rfl))))) pr9 pf9 hkx (by omega) hfn (fun x hx => by
          by_cases e9 : x = q
          · rw [e9, zfu_self]
          · rw [zfu_ne e9]; exact hu x (by omega)) hi 
set_option maxHeartbeats 4000000 in
set_option maxRecDepth 100000 in
theorem m_X10_interpolate {n0 n k : Nat} {g : Nat → zV} {h : zHp} {Q : Option zV → Nat → Nat → zHp → Prop} {m : Nat} {P : pT} {L : lT} {I O : tT} {V : Int × pT} {i iv : Int} (hP : pwf P) (hL : lwf L) (hI : iwf I) (hO : owf O) (hV : vwf V) (hB : n0 ≤ m) (hrf : rfAt h m P L I O V) (hQ : ∀  (h' : zHp), (rfAt h' m (s_ip P L i iv).2 L I O V) → (∀ q : Nat, (q < m ∨ m + 33 ≤ q) → h' q = h q) → Q (some (.inl ((s_ip P L i iv).1))) n k h') : ZT n0 g mX10_interpolate 0 (zloc mX10_interpolate [.inr (some m), .inl i, .inl iv]) [] n k h Q := by
  show ZT n0 g mX10_interpolate 0 [some (.inr (some m)), some (.inl i), some (.inl iv), none] [] n k h Q
  obtain ⟨fk, z, c, cn, en, ax, nu, sp, ss, hM, rp, rc, rk, rf, ry, ri, ro, rl, rv⟩ := id hrf
  have hpb := hP.bd
  have hs8 := hP.2.1
  refine T_aload_n dX10_interpolate_0 rfl ?_
  refine T_iload_n dX10_interpolate_1 rfl ?_
  refine T_callV dX10_interpolate_2 zkm_11_204 (Or.inl rfl) rfl hM ⟨Nat.le_of_ble_eq_true rfl, rfl⟩ rfl (Nat.le_of_ble_eq_true rfl) ?_
  refine m_X10_isCone  hP hL hI hO hV hB hrf (fun hh2 k2a pr_2 pf_2 => ?_) (fun hh2 k2a_2 pr_2_2 pf_2_2 => ?_)
  · obtain ⟨z, c, cn, en, ax, nu, sp, ss, hM, rp, rc, rk, rf, ry, ri, ro, rl, rv⟩ := id pr_2
    have hpb := hP.bd
    have hs8 := hP.2.1
    obtain ⟨tp, bt, sz, ch, cc, cl, ftp, fbt, fsz, fch, fcc, fcl, fkn⟩ := id rf
    obtain ⟨-, rfl, krf⟩ := fkn.resolve_left (by decide)
    have hNi := pN_is hP
    have hN1 := hNi.1
    have hN23 := hNi.2.1
    obtain ⟨wa, sy, un, y0, y1, y2⟩ := id ry
    obtain ⟨ki, le, el, sto, l0, l1, l2, l3, l4⟩ := id rl
    obtain ⟨j, rfl⟩ := Int.eq_ofNat_of_zero_le k2a.1
    have hj : j < pN P := by omega
    obtain ⟨r0, r1, r2, r3, r4⟩ := krf j hj
    have dB := pB_facts hP j
    have dW := pW_facts hP j
    refine T_if_eq dX10_interpolate_5 (t := 15) rfl (fun hc => absurd hc (by decide)) (fun _ => ?_)
    refine T_iload_n dX10_interpolate_8 rfl ?_
    refine T_callS dX10_interpolate_9 zkm_11_249 ⟨Nat.le_of_ble_eq_true rfl, Nat.le_of_ble_eq_true rfl, rfl⟩ rfl (Nat.le_of_ble_eq_true rfl) ?_
    refine m_X10_isSlot   (fun k9a => ?_) (fun k9a_2 => ?_)
    · obtain ⟨jx, rfl⟩ := Int.eq_ofNat_of_zero_le k9a.1
      have hsl : sSl (jx : Int) := k9a
      have hjx : jx < 4 := by have := hsl.2; omega
      have l40 := (l4 jx hjx).1
      refine T_if_ne dX10_interpolate_12 (t := 17) rfl (fun _ => ?_) (fun hc => absurd hc (by decide))
      refine T_aload_n dX10_interpolate_17 rfl ?_
      refine T_getfield dX10_interpolate_18 zkf_11_90 hM rfl ?_
      refine T_iload_n dX10_interpolate_21 rfl ?_
      refine T_ialoadN (m := jx) dX10_interpolate_22 l0 rfl (by omega) ?_
      refine T_iconst dX10_interpolate_23 (by decide) ?_
      refine T_icmp_eq dX10_interpolate_24 (t := 44) rfl (fun c24 => ?_) (fun c24 => ?_)
      · have l41 := (l4 jx hjx).2.1 (by omega)
        have hz : zami L jx 1 = 0 := by unfold zami; rw [if_neg (by omega), if_pos (by omega)]
        refine T_aload_n dX10_interpolate_44 rfl ?_
        refine T_getfield dX10_interpolate_45 zkf_11_93 hM rfl ?_
        refine T_iload_n dX10_interpolate_48 rfl ?_
        refine T_ialoadN (m := jx) dX10_interpolate_49 l1 rfl (by omega) ?_
        refine T_aload_n dX10_interpolate_50 rfl ?_
        refine T_getfield dX10_interpolate_51 zkf_11_111 hM rfl ?_
        refine T_icmp_eq dX10_interpolate_54 (t := 60) rfl (fun c54 => ?_) (fun c54 => ?_)
        · refine T_iconst dX10_interpolate_60 (by decide) ?_
          refine T_istore_n dX10_interpolate_61 (Nat.le_of_ble_eq_true rfl) ?_
          exact m_X10_interpolate_62 hP hL hI hO hV hB hrf hQ _ hh2 j 0 wa jx rfl _ y0 (fun q q1 => rfl) pr_2 pf_2 hj (by omega) (by unfold s_ip; rw [if_pos ⟨⟨by omega, by omega⟩, hsl⟩, Int.toNat_natCast, if_pos hz, if_pos (by omega), Int.toNat_natCast]) (fun i hi => absurd hi (Nat.not_lt_zero i)) ⟨rfl, rfl, hjx, by omega, by omega⟩ 
        · refine T_bipush dX10_interpolate_57 (by decide) ?_
          refine T_iret dX10_interpolate_59 rfl ?_
          have e : s_ip P L (j : Int) (jx : Int) = (-9, P) := by unfold s_ip; rw [if_pos ⟨⟨by omega, by omega⟩, hsl⟩, Int.toNat_natCast, if_pos hz, if_neg (by omega)]
          rw [e] at hQ
          exact hQ _ pr_2.at pf_2
      · refine T_aload_n dX10_interpolate_27 rfl ?_
        refine T_getfield dX10_interpolate_28 zkf_11_90 hM rfl ?_
        refine T_iload_n dX10_interpolate_31 rfl ?_
        refine T_ialoadN (m := jx) dX10_interpolate_32 l0 rfl (by omega) ?_
        refine T_if_ne dX10_interpolate_33 (t := 41) rfl (fun c33 => ?_) (fun c33 => ?_)
        · refine T_bipush dX10_interpolate_41 (by decide) ?_
          refine T_iret dX10_interpolate_43 rfl ?_
          have hz : zami L jx 1 = -7 := by unfold zami; rw [if_neg (by omega), if_neg (by omega)]
          have e : s_ip P L (j : Int) (jx : Int) = (-7, P) := by unfold s_ip; rw [if_pos ⟨⟨by omega, by omega⟩, hsl⟩, Int.toNat_natCast, if_neg (by rw [hz]; decide), hz]
          rw [e] at hQ
          exact hQ _ pr_2.at pf_2
        · refine T_bipush dX10_interpolate_36 (by decide) ?_
          refine T_goto dX10_interpolate_38 (t := 43) rfl ?_
          refine T_iret dX10_interpolate_43 rfl ?_
          have hz : zami L jx 1 = -6 := if_pos (by omega)
          have e : s_ip P L (j : Int) (jx : Int) = (-6, P) := by unfold s_ip; rw [if_pos ⟨⟨by omega, by omega⟩, hsl⟩, Int.toNat_natCast, if_neg (by rw [hz]; decide), hz]
          rw [e] at hQ
          exact hQ _ pr_2.at pf_2
    · refine T_if_ne dX10_interpolate_12 (t := 17) rfl (fun hc => absurd hc (by decide)) (fun _ => ?_)
      refine T_iconst dX10_interpolate_15 (by decide) ?_
      refine T_iret dX10_interpolate_16 rfl ?_
      have e : s_ip P L (j : Int) iv = (-1, P) := by exact if_neg (fun q => k9a_2 q.2)
      rw [e] at hQ
      exact hQ _ pr_2.at pf_2
  · obtain ⟨z, c, cn, en, ax, nu, sp, ss, hM, rp, rc, rk, rf, ry, ri, ro, rl, rv⟩ := id pr_2_2
    have hpb := hP.bd
    have hs8 := hP.2.1
    obtain ⟨tp, bt, sz, ch, cc, cl, ftp, fbt, fsz, fch, fcc, fcl, fkn⟩ := id rf
    obtain ⟨-, rfl, krf⟩ := fkn.resolve_left (by decide)
    have hNi := pN_is hP
    have hN1 := hNi.1
    have hN23 := hNi.2.1
    obtain ⟨wa, sy, un, y0, y1, y2⟩ := id ry
    obtain ⟨ki, le, el, sto, l0, l1, l2, l3, l4⟩ := id rl
    refine T_if_eq dX10_interpolate_5 (t := 15) rfl (fun _ => ?_) (fun hc => absurd hc (by decide))
    refine T_iconst dX10_interpolate_15 (by decide) ?_
    refine T_iret dX10_interpolate_16 rfl ?_
    have e : s_ip P L i iv = (-1, P) := by exact if_neg (fun q => k2a_2 q.1)
    rw [e] at hQ
    exact hQ _ pr_2_2.at pf_2_2
