/-! ===== the reference: wall, keep: printed by wip/whole/gen/s_ref5.py ===== -/
set_option maxHeartbeats 4000000 in
set_option maxRecDepth 100000 in
theorem m_X10_divisor_4 {n0 n k : Nat} {g : Nat → zV} {h : zHp} {Q : Option zV → Nat → Nat → zHp → Prop} {a b : Nat} (hb : a ≤ 100 ∧ b ≤ 100) (hQ : Q (some (.inl ((Nat.gcd a b) : Int))) n k h) : ∀ (d : Nat) (x : Nat) (y : Nat) (L4 : Option zV), y = d → (x ≤ 100 ∧ y ≤ 100) → (Nat.gcd x y = Nat.gcd a b) → ZT n0 g mX10_divisor 4 [some (.inl (a : Int)), some (.inl (b : Int)), some (.inl (x : Int)), some (.inl (y : Int)), L4] [] n k h Q := by
  intro d
  induction d using Nat.strongRecOn with | _ d ih => ?_
  intro x y L4 hd0 hx hg
  subst hd0
  refine T_iload_n dX10_divisor_4 rfl ?_
  refine T_if_eq dX10_divisor_5 (t := 21) rfl (fun c5 => ?_) (fun c5 => ?_)
  · refine T_iload_n dX10_divisor_21 rfl ?_
    refine T_iret dX10_divisor_22 rfl ?_
    have ey : y = 0 := by omega
    subst ey
    rw [Nat.gcd_zero_right] at hg
    rw [hg]
    exact hQ
  · have hm := Nat.mod_lt x (show 0 < y by omega)
    refine T_iload_n dX10_divisor_8 rfl ?_
    refine T_iload_n dX10_divisor_9 rfl ?_
    refine T_iremN dX10_divisor_10 ⟨by omega, by omega⟩ (by omega) ?_
    have r10 := zmod_bd (x : Int) (y : Int) (by omega)
    refine T_istore dX10_divisor_11 (Nat.le_of_ble_eq_true rfl) ?_
    refine T_iload_n dX10_divisor_13 rfl ?_
    refine T_istore_n dX10_divisor_14 (Nat.le_of_ble_eq_true rfl) ?_
    refine T_iload dX10_divisor_15 rfl ?_
    refine T_istore_n dX10_divisor_17 (Nat.le_of_ble_eq_true rfl) ?_
    refine T_goto dX10_divisor_18 (t := 4) rfl ?_
    exact ih _ hm y (x % y) _ rfl  (by omega) (by rw [zgcd_step (by omega)]; exact hg) 
set_option maxHeartbeats 4000000 in
set_option maxRecDepth 100000 in
theorem m_X10_divisor {n0 n k : Nat} {g : Nat → zV} {h : zHp} {Q : Option zV → Nat → Nat → zHp → Prop} {a b : Nat} (hb : a ≤ 100 ∧ b ≤ 100) (hQ : Q (some (.inl ((Nat.gcd a b) : Int))) n k h) : ZT n0 g mX10_divisor 0 (zloc mX10_divisor [.inl (a : Int), .inl (b : Int)]) [] n k h Q := by
  show ZT n0 g mX10_divisor 0 [some (.inl (a : Int)), some (.inl (b : Int)), none, none, none] [] n k h Q
  refine T_iload_n dX10_divisor_0 rfl ?_
  refine T_istore_n dX10_divisor_1 (Nat.le_of_ble_eq_true rfl) ?_
  refine T_iload_n dX10_divisor_2 rfl ?_
  refine T_istore_n dX10_divisor_3 (Nat.le_of_ble_eq_true rfl) ?_
  exact m_X10_divisor_4 hb hQ _ a b _ rfl  (by omega) rfl 
set_option maxHeartbeats 4000000 in
set_option maxRecDepth 100000 in
theorem m_X10_wall_19 {n0 n k : Nat} {g : Nat → zV} {h : zHp} {Q : Option zV → Nat → Nat → zHp → Prop} {m s z c : Nat} {p fk cn ln en ax nu wr sv sp ss : Int} {k1 : Nat} {co po tp bt : Nat → Int} {cm : Nat → Nat} {ce : Nat → Nat → Int} (hM : h m = some (.inl (11, mOb m p (s : Int) fk (z : Int) (c : Int) cn ln en ax nu wr sv sp ss))) (hA13 : h (m + 13) = some (.inr (.inl (0, 9, co)))) (hA14 : h (m + 14) = some (.inr (.inl (0, 729, po)))) (hA15 : h (m + 15) = some (.inr (.inl (0, 32, tp)))) (hA16 : h (m + 16) = some (.inr (.inl (0, 32, bt)))) (hc : c ≤ 4) (hcm : ∀ a, a < c → cm a < 81) (hco : ∀ a, a < c → co a = (cm a : Int) ∧ ∀ x, x < 81 → po (81 * a + x) = ce a x) (hce : ∀ a, a < c → ∀ q, ce a q ≠ 0 → q < 81) (hpos : ∀ a, a < c → ∀ q : Nat, ce a q ≠ 0 → cm a % 9 < q % 9 → q / 9 < cm a / 9) (hk : k1 < 32) (hw : n0 ≤ m)  : ∀ (d : Nat) (j : Nat) (t : Int) (b : Int) (n1 : Nat) (L6 : Option zV) (L7 : Option zV), 81 - n1 = d → (j < c) → (n1 ≤ 81) → (zMin (fun x y => zPair j cm ce x y ∨ zprC (cm j) (ce j) n1 x y) t b) → (0 ≤ b ∧ b ≤ 8 ∧ 0 ≤ t ∧ t ≤ 8 ∧ (0 < b → 0 < t)) → (∀ (t : Int) (b : Int) (n1 : Nat) (L6 : Option zV) (L7 : Option zV) , (zMin (zPair (j + 1) cm ce) t b) → (0 ≤ b ∧ b ≤ 8 ∧ 0 ≤ t ∧ t ≤ 8 ∧ (0 < b → 0 < t)) → ZT n0 g mX10_wall 110 [some (.inr (some m)), some (.inl (k1 : Int)), some (.inl t), some (.inl b), some (.inl (j : Int)), some (.inl (n1 : Int)), L6, L7] [] n k h Q) → ZT n0 g mX10_wall 19 [some (.inr (some m)), some (.inl (k1 : Int)), some (.inl t), some (.inl b), some (.inl (j : Int)), some (.inl (n1 : Int)), L6, L7] [] n k h Q := by
  intro d
  induction d using Nat.strongRecOn with | _ d ih => ?_
  intro j t b n1 L6 L7 hd0 hj hn hm hb kk110
  subst hd0
  have hPj : ∀ x y, (zPair j cm ce x y ∨ zprC (cm j) (ce j) n1 x y) → 0 < y := fun x y q => q.elim (fun ⟨_, _, _, _, q, _⟩ => q) (fun ⟨_, _, _, q, _⟩ => q)
  have hcj := hcm j hj
  have hoj := (hco j hj).1
  refine T_iload dX10_wall_19 rfl ?_
  refine T_bipush dX10_wall_21 (by decide) ?_
  refine T_icmp_ge dX10_wall_23 (t := 110) rfl (fun c23 => ?_) (fun c23 => ?_)
  · exact kk110 t b n1 _ _ (by
          have en : n1 = 81 := by omega
          subst en
          exact hm.ext (zPair_succC (hce j hj))) hb
  · refine T_iload dX10_wall_26 rfl ?_
    refine T_bipush dX10_wall_28 (by decide) ?_
    refine T_iremN dX10_wall_30 ⟨by omega, by omega⟩ (by omega) ?_
    refine T_aload_n dX10_wall_31 rfl ?_
    refine T_getfield dX10_wall_32 zkf_11_51 hM rfl ?_
    refine T_iload dX10_wall_35 rfl ?_
    refine T_ialoadN (m := j) dX10_wall_37 hA13 rfl (by omega) ?_
    rw [hoj]
    refine T_bipush dX10_wall_38 (by decide) ?_
    refine T_iremN dX10_wall_40 ⟨by omega, by omega⟩ (by omega) ?_
    refine T_isub dX10_wall_41 ⟨by omega, by omega⟩ ?_
    refine T_istore dX10_wall_42 (Nat.le_of_ble_eq_true rfl) ?_
    refine T_aload_n dX10_wall_44 rfl ?_
    refine T_getfield dX10_wall_45 zkf_11_51 hM rfl ?_
    refine T_iload dX10_wall_48 rfl ?_
    refine T_ialoadN (m := j) dX10_wall_50 hA13 rfl (by omega) ?_
    rw [hoj]
    refine T_bipush dX10_wall_51 (by decide) ?_
    refine T_idivN dX10_wall_53 ⟨by omega, by omega⟩ (by omega) ?_
    refine T_iload dX10_wall_54 rfl ?_
    refine T_bipush dX10_wall_56 (by decide) ?_
    refine T_idivN dX10_wall_58 ⟨by omega, by omega⟩ (by omega) ?_
    refine T_isub dX10_wall_59 ⟨by omega, by omega⟩ ?_
    refine T_istore dX10_wall_60 (Nat.le_of_ble_eq_true rfl) ?_
    refine T_iload dX10_wall_62 rfl ?_
    refine T_if_le dX10_wall_64 (t := 104) rfl (fun c64 => ?_) (fun c64 => ?_)
    · refine T_iinc dX10_wall_104 rfl ⟨by omega, by omega⟩ ?_
      refine T_goto dX10_wall_107 (t := 19) rfl ?_
      exact ih _ (by omega) j t b (n1 + 1) _ _ rfl  (by omega) (by omega) (hm.ext fun x y => zprC_suc0 (fun q => by omega) x y) (by omega) kk110
    · refine T_aload_n dX10_wall_67 rfl ?_
      refine T_getfield dX10_wall_68 zkf_11_54 hM rfl ?_
      refine T_bipush dX10_wall_71 (by decide) ?_
      refine T_iload dX10_wall_73 rfl ?_
      refine T_imul dX10_wall_75 ⟨by omega, by omega⟩ ?_
      refine T_iload dX10_wall_76 rfl ?_
      refine T_iadd dX10_wall_78 ⟨by omega, by omega⟩ ?_
      refine T_ialoadN (m := ((81 * j) + n1)) dX10_wall_79 hA14 rfl (by omega) ?_
      rw [(hco j hj).2 n1 (by omega)]
      refine T_if_eq dX10_wall_80 (t := 104) rfl (fun c80 => ?_) (fun c80 => ?_)
      · refine T_iinc dX10_wall_104 rfl ⟨by omega, by omega⟩ ?_
        refine T_goto dX10_wall_107 (t := 19) rfl ?_
        exact ih _ (by omega) j t b (n1 + 1) _ _ rfl  (by omega) (by omega) (hm.ext fun x y => zprC_suc0 (fun q => q.1 c80) x y) (by omega) kk110
      · have hps := hpos j hj n1 c80 (by omega)
        have n2 := zmul_le (show (0 : Int) ≤ (cm j : Int) / 9 - (n1 : Int) / 9 by omega) (show (cm j : Int) / 9 - (n1 : Int) / 9 ≤ 8 by omega) hb.1 hb.2.1
        have n3 := zmul_le hb.2.2.1 hb.2.2.2.1 (show (0 : Int) ≤ (n1 : Int) % 9 - (cm j : Int) % 9 by omega) (show (n1 : Int) % 9 - (cm j : Int) % 9 ≤ 8 by omega)
        refine T_iload_n dX10_wall_83 rfl ?_
        refine T_if_eq dX10_wall_84 (t := 98) rfl (fun c84 => ?_) (fun c84 => ?_)
        · refine T_iload dX10_wall_98 rfl ?_
          refine T_istore_n dX10_wall_100 (Nat.le_of_ble_eq_true rfl) ?_
          refine T_iload dX10_wall_101 rfl ?_
          refine T_istore_n dX10_wall_103 (Nat.le_of_ble_eq_true rfl) ?_
          refine T_iinc dX10_wall_104 rfl ⟨by omega, by omega⟩ ?_
          refine T_goto dX10_wall_107 (t := 19) rfl ?_
          exact ih _ (by omega) j ((((cm j) : Int) / 9) - ((n1 : Int) / 9)) (((n1 : Int) % 9) - (((cm j) : Int) % 9)) (n1 + 1) _ _ rfl  (by omega) (by omega) ((hm.better hPj (by omega) (Or.inl (by omega))).ext fun x y => zprC_suc c80 (by omega) x y) (by omega) kk110
        · refine T_iload dX10_wall_87 rfl ?_
          refine T_iload_n dX10_wall_89 rfl ?_
          refine T_imul dX10_wall_90 ⟨by omega, by omega⟩ ?_
          refine T_iload_n dX10_wall_91 rfl ?_
          refine T_iload dX10_wall_92 rfl ?_
          refine T_imul dX10_wall_94 ⟨by omega, by omega⟩ ?_
          refine T_icmp_ge dX10_wall_95 (t := 104) rfl (fun c95 => ?_) (fun c95 => ?_)
          · refine T_iinc dX10_wall_104 rfl ⟨by omega, by omega⟩ ?_
            refine T_goto dX10_wall_107 (t := 19) rfl ?_
            exact ih _ (by omega) j t b (n1 + 1) _ _ rfl  (by omega) (by omega) ((hm.keep (by omega) (by omega)).ext fun x y => zprC_suc c80 (by omega) x y) (by omega) kk110
          · refine T_iload dX10_wall_98 rfl ?_
            refine T_istore_n dX10_wall_100 (Nat.le_of_ble_eq_true rfl) ?_
            refine T_iload dX10_wall_101 rfl ?_
            refine T_istore_n dX10_wall_103 (Nat.le_of_ble_eq_true rfl) ?_
            refine T_iinc dX10_wall_104 rfl ⟨by omega, by omega⟩ ?_
            refine T_goto dX10_wall_107 (t := 19) rfl ?_
            exact ih _ (by omega) j ((((cm j) : Int) / 9) - ((n1 : Int) / 9)) (((n1 : Int) % 9) - (((cm j) : Int) % 9)) (n1 + 1) _ _ rfl  (by omega) (by omega) ((hm.better hPj (by omega) (Or.inr (by omega))).ext fun x y => zprC_suc c80 (by omega) x y) (by omega) kk110
set_option maxHeartbeats 4000000 in
set_option maxRecDepth 100000 in
theorem m_X10_wall_7 {n0 n k : Nat} {g : Nat → zV} {h : zHp} {Q : Option zV → Nat → Nat → zHp → Prop} {m s z c : Nat} {p fk cn ln en ax nu wr sv sp ss : Int} {k1 : Nat} {co po tp bt : Nat → Int} {cm : Nat → Nat} {ce : Nat → Nat → Int} (hM : h m = some (.inl (11, mOb m p (s : Int) fk (z : Int) (c : Int) cn ln en ax nu wr sv sp ss))) (hA13 : h (m + 13) = some (.inr (.inl (0, 9, co)))) (hA14 : h (m + 14) = some (.inr (.inl (0, 729, po)))) (hA15 : h (m + 15) = some (.inr (.inl (0, 32, tp)))) (hA16 : h (m + 16) = some (.inr (.inl (0, 32, bt)))) (hc : c ≤ 4) (hcm : ∀ a, a < c → cm a < 81) (hco : ∀ a, a < c → co a = (cm a : Int) ∧ ∀ x, x < 81 → po (81 * a + x) = ce a x) (hce : ∀ a, a < c → ∀ q, ce a q ≠ 0 → q < 81) (hpos : ∀ a, a < c → ∀ q : Nat, ce a q ≠ 0 → cm a % 9 < q % 9 → q / 9 < cm a / 9) (hk : k1 < 32) (hw : n0 ≤ m) (hQ : ∀ (w : Nat × Nat) (h' : zHp), (IsW (zPair c cm ce) w) → h' (m + 15) = some (.inr (.inl (0, 32, (zfu tp k1 (w.1 : Int))))) → h' (m + 16) = some (.inr (.inl (0, 32, (zfu bt k1 (w.2 : Int))))) → (∀ q : Nat, q ≠ (m + 15) → q ≠ (m + 16) → h' q = h q) → Q none n k h') : ∀ (d : Nat) (j : Nat) (t : Int) (b : Int) (L5 : Option zV) (L6 : Option zV) (L7 : Option zV), c - j = d → (j ≤ c) → (zMin (zPair j cm ce) t b) → (0 ≤ b ∧ b ≤ 8 ∧ 0 ≤ t ∧ t ≤ 8 ∧ (0 < b → 0 < t)) → ZT n0 g mX10_wall 7 [some (.inr (some m)), some (.inl (k1 : Int)), some (.inl t), some (.inl b), some (.inl (j : Int)), L5, L6, L7] [] n k h Q := by
  intro d
  induction d using Nat.strongRecOn with | _ d ih => ?_
  intro j t b L5 L6 L7 hd0 hj hm hb
  subst hd0
  refine T_iload dX10_wall_7 rfl ?_
  refine T_aload_n dX10_wall_9 rfl ?_
  refine T_getfield dX10_wall_10 zkf_11_152 hM rfl ?_
  refine T_icmp_ge dX10_wall_13 (t := 116) rfl (fun c13 => ?_) (fun c13 => ?_)
  · obtain ⟨t, rfl⟩ := Int.eq_ofNat_of_zero_le hb.2.2.1
    obtain ⟨b, rfl⟩ := Int.eq_ofNat_of_zero_le hb.1
    have hIW : IsW (zPair c cm ce) (zrdc t b) := ⟨t, b, by omega, by omega, by omega, by rw [show c = j by omega]; exact hm, rfl⟩
    refine T_iload_n dX10_wall_116 rfl ?_
    refine T_if_ne dX10_wall_117 (t := 124) rfl (fun c117 => ?_) (fun c117 => ?_)
    · refine T_iload_n dX10_wall_124 rfl ?_
      have hgp : 0 < Nat.gcd t b := Nat.gcd_pos_of_pos_right t (by omega)
      refine T_iload_n dX10_wall_125 rfl ?_
      refine T_callS dX10_wall_126 zkm_11_189 ⟨Nat.le_of_ble_eq_true rfl, Nat.le_of_ble_eq_true rfl, rfl⟩ rfl (Nat.le_of_ble_eq_true rfl) ?_
      refine m_X10_divisor  (by omega) ?_
      refine T_istore dX10_wall_129 (Nat.le_of_ble_eq_true rfl) ?_
      refine T_aload_n dX10_wall_131 rfl ?_
      refine T_getfield dX10_wall_132 zkf_11_57 hM rfl ?_
      refine T_iload_n dX10_wall_135 rfl ?_
      refine T_iload_n dX10_wall_136 rfl ?_
      refine T_iload dX10_wall_137 rfl ?_
      refine T_idivN dX10_wall_139 ⟨by omega, by omega⟩ (by omega) ?_
      refine T_iastoreN (m := k1) dX10_wall_140 hA15 rfl (by omega) (by omega) ?_
      refine T_aload_n dX10_wall_141 rfl ?_
      refine T_getfield dX10_wall_142 zkf_11_60 (zup_ne (by omega) hM) rfl ?_
      refine T_iload_n dX10_wall_145 rfl ?_
      refine T_iload_n dX10_wall_146 rfl ?_
      refine T_iload dX10_wall_147 rfl ?_
      refine T_idivN dX10_wall_149 ⟨by omega, by omega⟩ (by omega) ?_
      refine T_iastoreN (m := k1) dX10_wall_150 (zup_ne (by omega) hA16) rfl (by omega) (by omega) ?_
      refine T_vret dX10_wall_151 rfl ?_
      exact hQ (zrdc t b) _ hIW (zup_ne (by omega) zup_self) zup_self (fun q q0 q1 => ((zup_nf (by omega)).trans (((zup_nf (by omega)).trans (rfl)))))
    · refine T_iconst dX10_wall_120 (by decide) ?_
      refine T_goto dX10_wall_121 (t := 129) rfl ?_
      refine T_istore dX10_wall_129 (Nat.le_of_ble_eq_true rfl) ?_
      refine T_aload_n dX10_wall_131 rfl ?_
      refine T_getfield dX10_wall_132 zkf_11_57 hM rfl ?_
      refine T_iload_n dX10_wall_135 rfl ?_
      refine T_iload_n dX10_wall_136 rfl ?_
      refine T_iload dX10_wall_137 rfl ?_
      refine T_idivN dX10_wall_139 ⟨by omega, by omega⟩ (by omega) ?_
      refine T_iastoreN (m := k1) dX10_wall_140 hA15 rfl (by omega) (by omega) ?_
      refine T_aload_n dX10_wall_141 rfl ?_
      refine T_getfield dX10_wall_142 zkf_11_60 (zup_ne (by omega) hM) rfl ?_
      refine T_iload_n dX10_wall_145 rfl ?_
      refine T_iload_n dX10_wall_146 rfl ?_
      refine T_iload dX10_wall_147 rfl ?_
      refine T_idivN dX10_wall_149 ⟨by omega, by omega⟩ (by omega) ?_
      refine T_iastoreN (m := k1) dX10_wall_150 (zup_ne (by omega) hA16) rfl (by omega) (by omega) ?_
      refine T_vret dX10_wall_151 rfl ?_
      have hb0 : b = 0 := by omega
      have ht0 : t = 0 := by
        rcases hm with ⟨_, q, _⟩ | ⟨q, _⟩ <;> omega
      subst hb0; subst ht0
      exact hQ (zrdc 0 0) _ hIW (zup_ne (by omega) zup_self) zup_self (fun q q0 q1 => ((zup_nf (by omega)).trans (((zup_nf (by omega)).trans (rfl)))))
  · refine T_iconst dX10_wall_16 (by decide) ?_
    refine T_istore dX10_wall_17 (Nat.le_of_ble_eq_true rfl) ?_
    refine m_X10_wall_19 hM hA13 hA14 hA15 hA16 hc hcm hco hce hpos hk hw _ j t b 0 _ _ rfl  (by omega) (by omega) (hm.ext (fun x y => ⟨Or.inl, fun q => q.elim id (fun ⟨i, hi, _⟩ => absurd hi (Nat.not_lt_zero i))⟩)) hb (fun t110 b110 n1110 L6110 L7110 xm_110 xb_110 => ?_)
    refine T_iinc dX10_wall_110 rfl ⟨by omega, by omega⟩ ?_
    refine T_goto dX10_wall_113 (t := 7) rfl ?_
    exact ih _ (by omega) (j + 1) t110 b110 _ _ _ rfl  (by omega) xm_110 xb_110 
set_option maxHeartbeats 4000000 in
set_option maxRecDepth 100000 in
theorem m_X10_wall {n0 n k : Nat} {g : Nat → zV} {h : zHp} {Q : Option zV → Nat → Nat → zHp → Prop} {m s z c : Nat} {p fk cn ln en ax nu wr sv sp ss : Int} {k1 : Nat} {co po tp bt : Nat → Int} {cm : Nat → Nat} {ce : Nat → Nat → Int} (hM : h m = some (.inl (11, mOb m p (s : Int) fk (z : Int) (c : Int) cn ln en ax nu wr sv sp ss))) (hA13 : h (m + 13) = some (.inr (.inl (0, 9, co)))) (hA14 : h (m + 14) = some (.inr (.inl (0, 729, po)))) (hA15 : h (m + 15) = some (.inr (.inl (0, 32, tp)))) (hA16 : h (m + 16) = some (.inr (.inl (0, 32, bt)))) (hc : c ≤ 4) (hcm : ∀ a, a < c → cm a < 81) (hco : ∀ a, a < c → co a = (cm a : Int) ∧ ∀ x, x < 81 → po (81 * a + x) = ce a x) (hce : ∀ a, a < c → ∀ q, ce a q ≠ 0 → q < 81) (hpos : ∀ a, a < c → ∀ q : Nat, ce a q ≠ 0 → cm a % 9 < q % 9 → q / 9 < cm a / 9) (hk : k1 < 32) (hw : n0 ≤ m) (hQ : ∀ (w : Nat × Nat) (h' : zHp), (IsW (zPair c cm ce) w) → h' (m + 15) = some (.inr (.inl (0, 32, (zfu tp k1 (w.1 : Int))))) → h' (m + 16) = some (.inr (.inl (0, 32, (zfu bt k1 (w.2 : Int))))) → (∀ q : Nat, q ≠ (m + 15) → q ≠ (m + 16) → h' q = h q) → Q none n k h') : ZT n0 g mX10_wall 0 (zloc mX10_wall [.inr (some m), .inl (k1 : Int)]) [] n k h Q := by
  show ZT n0 g mX10_wall 0 [some (.inr (some m)), some (.inl (k1 : Int)), none, none, none, none, none, none] [] n k h Q
  refine T_iconst dX10_wall_0 (by decide) ?_
  refine T_istore_n dX10_wall_1 (Nat.le_of_ble_eq_true rfl) ?_
  refine T_iconst dX10_wall_2 (by decide) ?_
  refine T_istore_n dX10_wall_3 (Nat.le_of_ble_eq_true rfl) ?_
  refine T_iconst dX10_wall_4 (by decide) ?_
  refine T_istore dX10_wall_5 (Nat.le_of_ble_eq_true rfl) ?_
  exact m_X10_wall_7 hM hA13 hA14 hA15 hA16 hc hcm hco hce hpos hk hw hQ _ 0 0 0 _ _ _ rfl  (by omega) (Or.inl ⟨rfl, rfl, fun x y q => by obtain ⟨a, ha, -⟩ := q; omega⟩) (by omega) 
set_option maxHeartbeats 4000000 in
set_option maxRecDepth 100000 in
theorem m_X10_keep_70 {n0 n k : Nat} {g : Nat → zV} {h : zHp} {Q : Option zV → Nat → Nat → zHp → Prop} {m s z c : Nat} {p fk cn ln en ax nu wr sv sp ss : Int} {k1 : Nat} {hh co po tp bt sz ch cc cl : Nat → Int} {B : Nat → bT} {W : Nat → Nat × Nat} (hM : h m = some (.inl (11, mOb m p (s : Int) fk (z : Int) (c : Int) cn ln en ax nu wr sv sp ss))) (hA12 : h (m + 12) = some (.inr (.inl (0, 9, hh)))) (hA13 : h (m + 13) = some (.inr (.inl (0, 9, co)))) (hA14 : h (m + 14) = some (.inr (.inl (0, 729, po)))) (hg15 : h (m + 15) = some (.inr (.inl (0, 32, tp)))) (hg16 : h (m + 16) = some (.inr (.inl (0, 32, bt)))) (hg17 : h (m + 17) = some (.inr (.inl (0, 32, sz)))) (hg18 : h (m + 18) = some (.inr (.inl (0, 288, ch)))) (hg19 : h (m + 19) = some (.inr (.inl (0, 288, cc)))) (hg20 : h (m + 20) = some (.inr (.inl (0, 23328, cl)))) (hk : k1 < 32) (hc : c ≤ 4 ∧ c = (B k1).2.1) (hH : ∀ i, i < 9 → hh i = ((B k1).1 i : Int)) (hcm : ∀ a, a < c → (B k1).2.2.1 a < 81) (hco : ∀ a, a < c → co a = ((B k1).2.2.1 a : Int) ∧ ∀ x, x < 81 → po (81 * a + x) = (B k1).2.2.2 a x) (hce : ∀ a, a < c → ∀ q, (B k1).2.2.2 a q ≠ 0 → q < 81) (hpos : ∀ a, a < c → ∀ q : Nat, (B k1).2.2.2 a q ≠ 0 → (B k1).2.2.1 a % 9 < q % 9 → q / 9 < (B k1).2.2.1 a / 9) (hWW : ∀ w, IsW (zPair (B k1).2.1 (B k1).2.2.1 (B k1).2.2.2) w → w = W k1) (hrf : rfan k1 B W tp bt sz ch cc cl) (hw : n0 ≤ m) (hB4 : ∀ j, j < k1 → (B j).2.1 ≤ 4)  : ∀ (d : Nat) (a : Nat) (x1 : Nat) (sz1 : Nat → Int) (ch1 : Nat → Int) (cc1 : Nat → Int) (cl1 : Nat → Int), 81 - x1 = d → ∀ h1 : zHp, h1 (m + 17) = some (.inr (.inl (0, 32, sz1))) → h1 (m + 18) = some (.inr (.inl (0, 288, ch1))) → h1 (m + 19) = some (.inr (.inl (0, 288, cc1))) → h1 (m + 20) = some (.inr (.inl (0, 23328, cl1))) → (∀ q : Nat, q ≠ (m + 17) → q ≠ (m + 18) → q ≠ (m + 19) → q ≠ (m + 20) → h1 q = h q) → (a < c) → (x1 ≤ 81) → (sz1 = zfu sz k1 (c : Int)) → ((∀ q, q < 9 * k1 → ch1 q = ch q) ∧ (∀ q, q < 9 * k1 → cc1 q = cc q) ∧ ∀ q, q < 729 * k1 → cl1 q = cl q) → (∀ q, q < 9 → ch1 (9 * k1 + q) = hh q) → (∀ q, q < a → cc1 (9 * k1 + q) = co q ∧ ∀ x, x < 81 → cl1 (81 * (9 * k1 + q) + x) = po (81 * q + x)) → (cc1 (9 * k1 + a) = co a) → (∀ x, x < x1 → cl1 (81 * (9 * k1 + a) + x) = po (81 * a + x)) → (∀ (x1 : Nat) (cl1 : Nat → Int) (h' : zHp), ((∀ q, q < 9 * k1 → ch1 q = ch q) ∧ (∀ q, q < 9 * k1 → cc1 q = cc q) ∧ ∀ q, q < 729 * k1 → cl1 q = cl q) → (∀ q, q < a + 1 → cc1 (9 * k1 + q) = co q ∧ ∀ x, x < 81 → cl1 (81 * (9 * k1 + q) + x) = po (81 * q + x)) → h' (m + 17) = some (.inr (.inl (0, 32, sz1))) → h' (m + 18) = some (.inr (.inl (0, 288, ch1))) → h' (m + 19) = some (.inr (.inl (0, 288, cc1))) → h' (m + 20) = some (.inr (.inl (0, 23328, cl1))) → (∀ q : Nat, q ≠ (m + 17) → q ≠ (m + 18) → q ≠ (m + 19) → q ≠ (m + 20) → h' q = h q) → ZT n0 g mX10_keep 109 [some (.inr (some m)), some (.inl (k1 : Int)), some (.inl (a : Int)), some (.inl (x1 : Int))] [] n k h' Q) → ZT n0 g mX10_keep 70 [some (.inr (some m)), some (.inl (k1 : Int)), some (.inl (a : Int)), some (.inl (x1 : Int))] [] n k h1 Q := by
  intro d
  induction d using Nat.strongRecOn with | _ d ih => ?_
  intro a x1 sz1 ch1 cc1 cl1 hd0 h1 g17 g18 g19 g20 hfr ha hx hsz hun h1 h2 h3 h4 kk109
  subst hd0
  refine T_iload_n dX10_keep_70 rfl ?_
  refine T_bipush dX10_keep_71 (by decide) ?_
  refine T_icmp_ge dX10_keep_73 (t := 109) rfl (fun c73 => ?_) (fun c73 => ?_)
  · exact kk109 x1 _ _ hun (fun q hq => by
          by_cases e : q = a
          · subst e; exact ⟨h3, fun x hx => h4 x (by omega)⟩
          · exact h2 q (by omega)) g17 g18 g19 g20 (fun q q0 q1 q2 q3 => ((hfr _ q0 q1 q2 q3).trans rfl))
  · refine T_aload_n dX10_keep_76 rfl ?_
    refine T_getfield dX10_keep_77 zkf_11_72 ((hfr _ (by omega) (by omega) (by omega) (by omega)).trans hM) rfl ?_
    refine T_bipush dX10_keep_80 (by decide) ?_
    refine T_bipush dX10_keep_82 (by decide) ?_
    refine T_iload_n dX10_keep_84 rfl ?_
    refine T_imul dX10_keep_85 ⟨by omega, by omega⟩ ?_
    refine T_iload_n dX10_keep_86 rfl ?_
    refine T_iadd dX10_keep_87 ⟨by omega, by omega⟩ ?_
    refine T_imul dX10_keep_88 ⟨by omega, by omega⟩ ?_
    refine T_iload_n dX10_keep_89 rfl ?_
    refine T_iadd dX10_keep_90 ⟨by omega, by omega⟩ ?_
    refine T_aload_n dX10_keep_91 rfl ?_
    refine T_getfield dX10_keep_92 zkf_11_54 ((hfr _ (by omega) (by omega) (by omega) (by omega)).trans hM) rfl ?_
    refine T_bipush dX10_keep_95 (by decide) ?_
    refine T_iload_n dX10_keep_97 rfl ?_
    refine T_imul dX10_keep_98 ⟨by omega, by omega⟩ ?_
    refine T_iload_n dX10_keep_99 rfl ?_
    refine T_iadd dX10_keep_100 ⟨by omega, by omega⟩ ?_
    refine T_ialoadN (m := ((81 * a) + x1)) dX10_keep_101 ((hfr _ (by omega) (by omega) (by omega) (by omega)).trans hA14) rfl (by omega) ?_
    refine T_iastoreN (m := ((81 * ((9 * k1) + a)) + x1)) dX10_keep_102 g20 rfl (by omega) (by omega) ?_
    refine T_iinc dX10_keep_103 rfl ⟨by omega, by omega⟩ ?_
    refine T_goto dX10_keep_106 (t := 70) rfl ?_
    exact ih _ (by omega) a (x1 + 1) _ _ _ _ rfl _ (zup_ne (by omega) g17) (zup_ne (by omega) g18) (zup_ne (by omega) g19) zup_self (fun q q0 q1 q2 q3 => ((zup_nf q3).trans ((hfr _ q0 q1 q2 q3).trans rfl))) (by omega) (by omega) hsz ⟨hun.1, hun.2.1, fun q hq => by rw [zfu_ne (by omega)]; exact hun.2.2 q hq⟩ h1 (fun q hq => ⟨(h2 q hq).1, fun x hx => by rw [zfu_ne (by omega)]; exact (h2 q hq).2 x hx⟩) h3 (fun x hx => by
          by_cases e : x = x1
          · subst e; rw [zfu_self]
          · rw [zfu_ne (by omega)]; exact h4 x (by omega)) kk109
set_option maxHeartbeats 4000000 in
set_option maxRecDepth 100000 in
theorem m_X10_keep_43 {n0 n k : Nat} {g : Nat → zV} {h : zHp} {Q : Option zV → Nat → Nat → zHp → Prop} {m s z c : Nat} {p fk cn ln en ax nu wr sv sp ss : Int} {k1 : Nat} {hh co po tp bt sz ch cc cl : Nat → Int} {B : Nat → bT} {W : Nat → Nat × Nat} (hM : h m = some (.inl (11, mOb m p (s : Int) fk (z : Int) (c : Int) cn ln en ax nu wr sv sp ss))) (hA12 : h (m + 12) = some (.inr (.inl (0, 9, hh)))) (hA13 : h (m + 13) = some (.inr (.inl (0, 9, co)))) (hA14 : h (m + 14) = some (.inr (.inl (0, 729, po)))) (hg15 : h (m + 15) = some (.inr (.inl (0, 32, tp)))) (hg16 : h (m + 16) = some (.inr (.inl (0, 32, bt)))) (hg17 : h (m + 17) = some (.inr (.inl (0, 32, sz)))) (hg18 : h (m + 18) = some (.inr (.inl (0, 288, ch)))) (hg19 : h (m + 19) = some (.inr (.inl (0, 288, cc)))) (hg20 : h (m + 20) = some (.inr (.inl (0, 23328, cl)))) (hk : k1 < 32) (hc : c ≤ 4 ∧ c = (B k1).2.1) (hH : ∀ i, i < 9 → hh i = ((B k1).1 i : Int)) (hcm : ∀ a, a < c → (B k1).2.2.1 a < 81) (hco : ∀ a, a < c → co a = ((B k1).2.2.1 a : Int) ∧ ∀ x, x < 81 → po (81 * a + x) = (B k1).2.2.2 a x) (hce : ∀ a, a < c → ∀ q, (B k1).2.2.2 a q ≠ 0 → q < 81) (hpos : ∀ a, a < c → ∀ q : Nat, (B k1).2.2.2 a q ≠ 0 → (B k1).2.2.1 a % 9 < q % 9 → q / 9 < (B k1).2.2.1 a / 9) (hWW : ∀ w, IsW (zPair (B k1).2.1 (B k1).2.2.1 (B k1).2.2.2) w → w = W k1) (hrf : rfan k1 B W tp bt sz ch cc cl) (hw : n0 ≤ m) (hB4 : ∀ j, j < k1 → (B j).2.1 ≤ 4) (hQ : ∀ (tp1 bt1 sz1 ch1 cc1 cl1 : Nat → Int) (h' : zHp), (rfan (k1 + 1) B W tp1 bt1 sz1 ch1 cc1 cl1) → h' (m + 15) = some (.inr (.inl (0, 32, tp1))) → h' (m + 16) = some (.inr (.inl (0, 32, bt1))) → h' (m + 17) = some (.inr (.inl (0, 32, sz1))) → h' (m + 18) = some (.inr (.inl (0, 288, ch1))) → h' (m + 19) = some (.inr (.inl (0, 288, cc1))) → h' (m + 20) = some (.inr (.inl (0, 23328, cl1))) → (∀ q : Nat, q ≠ (m + 15) → q ≠ (m + 16) → q ≠ (m + 17) → q ≠ (m + 18) → q ≠ (m + 19) → q ≠ (m + 20) → h' q = h q) → Q none n k h') : ∀ (d : Nat) (a : Nat) (sz1 : Nat → Int) (ch1 : Nat → Int) (cc1 : Nat → Int) (cl1 : Nat → Int) (L3 : Option zV), c - a = d → ∀ h1 : zHp, h1 (m + 17) = some (.inr (.inl (0, 32, sz1))) → h1 (m + 18) = some (.inr (.inl (0, 288, ch1))) → h1 (m + 19) = some (.inr (.inl (0, 288, cc1))) → h1 (m + 20) = some (.inr (.inl (0, 23328, cl1))) → (∀ q : Nat, q ≠ (m + 17) → q ≠ (m + 18) → q ≠ (m + 19) → q ≠ (m + 20) → h1 q = h q) → (a ≤ c) → (sz1 = zfu sz k1 (c : Int)) → ((∀ q, q < 9 * k1 → ch1 q = ch q) ∧ (∀ q, q < 9 * k1 → cc1 q = cc q) ∧ ∀ q, q < 729 * k1 → cl1 q = cl q) → (∀ q, q < 9 → ch1 (9 * k1 + q) = hh q) → (∀ q, q < a → cc1 (9 * k1 + q) = co q ∧ ∀ x, x < 81 → cl1 (81 * (9 * k1 + q) + x) = po (81 * q + x)) → ZT n0 g mX10_keep 43 [some (.inr (some m)), some (.inl (k1 : Int)), some (.inl (a : Int)), L3] [] n k h1 Q := by
  intro d
  induction d using Nat.strongRecOn with | _ d ih => ?_
  intro a sz1 ch1 cc1 cl1 L3 hd0 h1 g17 g18 g19 g20 hfr ha hsz hun h1 h2
  subst hd0
  refine T_iload_n dX10_keep_43 rfl ?_
  refine T_aload_n dX10_keep_44 rfl ?_
  refine T_getfield dX10_keep_45 zkf_11_152 ((hfr _ (by omega) (by omega) (by omega) (by omega)).trans hM) rfl ?_
  refine T_icmp_ge dX10_keep_48 (t := 115) rfl (fun c48 => ?_) (fun c48 => ?_)
  · refine T_aload_n dX10_keep_115 rfl ?_
    refine T_iload_n dX10_keep_116 rfl ?_
    refine T_callV dX10_keep_117 zkm_11_192 (Or.inl rfl) rfl ((hfr _ (by omega) (by omega) (by omega) (by omega)).trans hM) ⟨Nat.le_of_ble_eq_true rfl, rfl⟩ rfl (Nat.le_of_ble_eq_true rfl) ?_
    refine m_X10_wall (cm := (B k1).2.2.1) (ce := (B k1).2.2.2) ((hfr _ (by omega) (by omega) (by omega) (by omega)).trans hM) ((hfr _ (by omega) (by omega) (by omega) (by omega)).trans hA13) ((hfr _ (by omega) (by omega) (by omega) (by omega)).trans hA14) ((hfr _ (by omega) (by omega) (by omega) (by omega)).trans hg15) ((hfr _ (by omega) (by omega) (by omega) (by omega)).trans hg16) hc.1 hcm hco hce hpos (by omega) (by omega) (fun w117 hh117 k117a f117a f117b fr117 => ?_)
    refine T_vret dX10_keep_120 rfl ?_
    exact hQ _ _ _ _ _ _ _ (fun j hj => by
          by_cases e : j = k1
          · subst e
            have ew := hWW w117 (by rw [← hc.2]; exact k117a)
            refine ⟨by rw [hsz, zfu_self, hc.2], fun i hi => by rw [h1 i hi]; exact hH i hi, fun a2 ha2 => ?_, by rw [zfu_self, ew], by rw [zfu_self, ew]⟩
            obtain ⟨r1, r2⟩ := h2 a2 (by omega)
            obtain ⟨r3, r4⟩ := hco a2 (by omega)
            exact ⟨by rw [r1, r3], fun x hx => by rw [r2 x hx]; exact r4 x hx⟩
          · obtain ⟨r1, r2, r3, r4, r5⟩ := hrf j (by omega)
            refine ⟨by rw [hsz, zfu_ne e]; exact r1, fun i hi => by rw [hun.1 _ (by omega)]; exact r2 i hi, fun a2 ha2 => ?_, by rw [zfu_ne e]; exact r4, by rw [zfu_ne e]; exact r5⟩
            have h4 := hB4 j (by omega)
            obtain ⟨r6, r7⟩ := r3 a2 ha2
            exact ⟨by rw [hun.2.1 _ (by omega)]; exact r6, fun x hx => by rw [hun.2.2 _ (by omega)]; exact r7 x hx⟩) f117a f117b ((fr117 _ (by omega) (by omega)).trans g17) ((fr117 _ (by omega) (by omega)).trans g18) ((fr117 _ (by omega) (by omega)).trans g19) ((fr117 _ (by omega) (by omega)).trans g20) (fun q q0 q1 q2 q3 q4 q5 => ((fr117 _ q0 q1).trans ((hfr _ q2 q3 q4 q5).trans rfl)))
  · refine T_aload_n dX10_keep_51 rfl ?_
    refine T_getfield dX10_keep_52 zkf_11_69 ((hfr _ (by omega) (by omega) (by omega) (by omega)).trans hM) rfl ?_
    refine T_bipush dX10_keep_55 (by decide) ?_
    refine T_iload_n dX10_keep_57 rfl ?_
    refine T_imul dX10_keep_58 ⟨by omega, by omega⟩ ?_
    refine T_iload_n dX10_keep_59 rfl ?_
    refine T_iadd dX10_keep_60 ⟨by omega, by omega⟩ ?_
    refine T_aload_n dX10_keep_61 rfl ?_
    refine T_getfield dX10_keep_62 zkf_11_51 ((hfr _ (by omega) (by omega) (by omega) (by omega)).trans hM) rfl ?_
    refine T_iload_n dX10_keep_65 rfl ?_
    refine T_ialoadN (m := a) dX10_keep_66 ((hfr _ (by omega) (by omega) (by omega) (by omega)).trans hA13) rfl (by omega) ?_
    refine T_iastoreN (m := ((9 * k1) + a)) dX10_keep_67 g19 rfl (by omega) (by omega) ?_
    refine T_iconst dX10_keep_68 (by decide) ?_
    refine T_istore_n dX10_keep_69 (Nat.le_of_ble_eq_true rfl) ?_
    refine m_X10_keep_70 hM hA12 hA13 hA14 hg15 hg16 hg17 hg18 hg19 hg20 hk hc hH hcm hco hce hpos hWW hrf hw hB4 _ a 0 _ _ _ _ rfl _ (zup_ne (by omega) g17) (zup_ne (by omega) g18) zup_self (zup_ne (by omega) g20) (fun q q0 q1 q2 q3 => ((zup_nf q2).trans ((hfr _ q0 q1 q2 q3).trans rfl))) (by omega) (by omega) hsz ⟨hun.1, fun q hq => by rw [zfu_ne (by omega)]; exact hun.2.1 q hq, hun.2.2⟩ h1 (fun q hq => ⟨by rw [zfu_ne (by omega)]; exact (h2 q hq).1, (h2 q hq).2⟩) zfu_self (fun i hi => absurd hi (Nat.not_lt_zero i)) (fun x1109 cl1109 hh109 yun_109 y2_109 g17_109 g18_109 g19_109 g20_109 fr_109 => ?_)
    refine T_iinc dX10_keep_109 rfl ⟨by omega, by omega⟩ ?_
    refine T_goto dX10_keep_112 (t := 43) rfl ?_
    exact ih _ (by omega) (a + 1) _ _ _ _ _ rfl _ g17_109 g18_109 g19_109 g20_109 (fun q q0 q1 q2 q3 => ((fr_109 _ q0 q1 q2 q3).trans rfl)) (by omega) hsz yun_109 h1 y2_109 
set_option maxHeartbeats 4000000 in
set_option maxRecDepth 100000 in
theorem m_X10_keep_12 {n0 n k : Nat} {g : Nat → zV} {h : zHp} {Q : Option zV → Nat → Nat → zHp → Prop} {m s z c : Nat} {p fk cn ln en ax nu wr sv sp ss : Int} {k1 : Nat} {hh co po tp bt sz ch cc cl : Nat → Int} {B : Nat → bT} {W : Nat → Nat × Nat} (hM : h m = some (.inl (11, mOb m p (s : Int) fk (z : Int) (c : Int) cn ln en ax nu wr sv sp ss))) (hA12 : h (m + 12) = some (.inr (.inl (0, 9, hh)))) (hA13 : h (m + 13) = some (.inr (.inl (0, 9, co)))) (hA14 : h (m + 14) = some (.inr (.inl (0, 729, po)))) (hg15 : h (m + 15) = some (.inr (.inl (0, 32, tp)))) (hg16 : h (m + 16) = some (.inr (.inl (0, 32, bt)))) (hg17 : h (m + 17) = some (.inr (.inl (0, 32, sz)))) (hg18 : h (m + 18) = some (.inr (.inl (0, 288, ch)))) (hg19 : h (m + 19) = some (.inr (.inl (0, 288, cc)))) (hg20 : h (m + 20) = some (.inr (.inl (0, 23328, cl)))) (hk : k1 < 32) (hc : c ≤ 4 ∧ c = (B k1).2.1) (hH : ∀ i, i < 9 → hh i = ((B k1).1 i : Int)) (hcm : ∀ a, a < c → (B k1).2.2.1 a < 81) (hco : ∀ a, a < c → co a = ((B k1).2.2.1 a : Int) ∧ ∀ x, x < 81 → po (81 * a + x) = (B k1).2.2.2 a x) (hce : ∀ a, a < c → ∀ q, (B k1).2.2.2 a q ≠ 0 → q < 81) (hpos : ∀ a, a < c → ∀ q : Nat, (B k1).2.2.2 a q ≠ 0 → (B k1).2.2.1 a % 9 < q % 9 → q / 9 < (B k1).2.2.1 a / 9) (hWW : ∀ w, IsW (zPair (B k1).2.1 (B k1).2.2.1 (B k1).2.2.2) w → w = W k1) (hrf : rfan k1 B W tp bt sz ch cc cl) (hw : n0 ≤ m) (hB4 : ∀ j, j < k1 → (B j).2.1 ≤ 4) (hQ : ∀ (tp1 bt1 sz1 ch1 cc1 cl1 : Nat → Int) (h' : zHp), (rfan (k1 + 1) B W tp1 bt1 sz1 ch1 cc1 cl1) → h' (m + 15) = some (.inr (.inl (0, 32, tp1))) → h' (m + 16) = some (.inr (.inl (0, 32, bt1))) → h' (m + 17) = some (.inr (.inl (0, 32, sz1))) → h' (m + 18) = some (.inr (.inl (0, 288, ch1))) → h' (m + 19) = some (.inr (.inl (0, 288, cc1))) → h' (m + 20) = some (.inr (.inl (0, 23328, cl1))) → (∀ q : Nat, q ≠ (m + 15) → q ≠ (m + 16) → q ≠ (m + 17) → q ≠ (m + 18) → q ≠ (m + 19) → q ≠ (m + 20) → h' q = h q) → Q none n k h') : ∀ (d : Nat) (i : Nat) (sz1 : Nat → Int) (ch1 : Nat → Int) (cc1 : Nat → Int) (cl1 : Nat → Int) (L3 : Option zV), 9 - i = d → ∀ h1 : zHp, h1 (m + 17) = some (.inr (.inl (0, 32, sz1))) → h1 (m + 18) = some (.inr (.inl (0, 288, ch1))) → h1 (m + 19) = some (.inr (.inl (0, 288, cc1))) → h1 (m + 20) = some (.inr (.inl (0, 23328, cl1))) → (∀ q : Nat, q ≠ (m + 17) → q ≠ (m + 18) → q ≠ (m + 19) → q ≠ (m + 20) → h1 q = h q) → (i ≤ 9) → (sz1 = zfu sz k1 (c : Int)) → ((∀ q, q < 9 * k1 → ch1 q = ch q) ∧ (∀ q, q < 9 * k1 → cc1 q = cc q) ∧ ∀ q, q < 729 * k1 → cl1 q = cl q) → (∀ q, q < i → ch1 (9 * k1 + q) = hh q) → ZT n0 g mX10_keep 12 [some (.inr (some m)), some (.inl (k1 : Int)), some (.inl (i : Int)), L3] [] n k h1 Q := by
  intro d
  induction d using Nat.strongRecOn with | _ d ih => ?_
  intro i sz1 ch1 cc1 cl1 L3 hd0 h1 g17 g18 g19 g20 hfr hi hsz hun h1
  subst hd0
  refine T_iload_n dX10_keep_12 rfl ?_
  refine T_bipush dX10_keep_13 (by decide) ?_
  refine T_icmp_ge dX10_keep_15 (t := 41) rfl (fun c15 => ?_) (fun c15 => ?_)
  · refine T_iconst dX10_keep_41 (by decide) ?_
    refine T_istore_n dX10_keep_42 (Nat.le_of_ble_eq_true rfl) ?_
    exact m_X10_keep_43 hM hA12 hA13 hA14 hg15 hg16 hg17 hg18 hg19 hg20 hk hc hH hcm hco hce hpos hWW hrf hw hB4 hQ _ 0 _ _ _ _ _ rfl _ g17 g18 g19 g20 (fun q q0 q1 q2 q3 => ((hfr _ q0 q1 q2 q3).trans rfl)) (by omega) hsz hun (fun q hq => h1 q (by omega)) (fun q hq => absurd hq (Nat.not_lt_zero q)) 
  · refine T_aload_n dX10_keep_18 rfl ?_
    refine T_getfield dX10_keep_19 zkf_11_66 ((hfr _ (by omega) (by omega) (by omega) (by omega)).trans hM) rfl ?_
    refine T_bipush dX10_keep_22 (by decide) ?_
    refine T_iload_n dX10_keep_24 rfl ?_
    refine T_imul dX10_keep_25 ⟨by omega, by omega⟩ ?_
    refine T_iload_n dX10_keep_26 rfl ?_
    refine T_iadd dX10_keep_27 ⟨by omega, by omega⟩ ?_
    refine T_aload_n dX10_keep_28 rfl ?_
    refine T_getfield dX10_keep_29 zkf_11_48 ((hfr _ (by omega) (by omega) (by omega) (by omega)).trans hM) rfl ?_
    refine T_iload_n dX10_keep_32 rfl ?_
    refine T_ialoadN (m := i) dX10_keep_33 ((hfr _ (by omega) (by omega) (by omega) (by omega)).trans hA12) rfl (by omega) ?_
    refine T_iastoreN (m := ((9 * k1) + i)) dX10_keep_34 g18 rfl (by omega) (by omega) ?_
    refine T_iinc dX10_keep_35 rfl ⟨by omega, by omega⟩ ?_
    refine T_goto dX10_keep_38 (t := 12) rfl ?_
    exact ih _ (by omega) (i + 1) _ _ _ _ _ rfl _ (zup_ne (by omega) g17) zup_self (zup_ne (by omega) g19) (zup_ne (by omega) g20) (fun q q0 q1 q2 q3 => ((zup_nf q1).trans ((hfr _ q0 q1 q2 q3).trans rfl))) (by omega) hsz ⟨fun q hq => by rw [zfu_ne (by omega)]; exact hun.1 q hq, hun.2⟩ (fun q hq => by
          by_cases e : q = i
          · subst e; rw [zfu_self]
          · rw [zfu_ne (by omega)]; exact h1 q (by omega)) 
set_option maxHeartbeats 4000000 in
set_option maxRecDepth 100000 in
theorem m_X10_keep {n0 n k : Nat} {g : Nat → zV} {h : zHp} {Q : Option zV → Nat → Nat → zHp → Prop} {m s z c : Nat} {p fk cn ln en ax nu wr sv sp ss : Int} {k1 : Nat} {hh co po tp bt sz ch cc cl : Nat → Int} {B : Nat → bT} {W : Nat → Nat × Nat} (hM : h m = some (.inl (11, mOb m p (s : Int) fk (z : Int) (c : Int) cn ln en ax nu wr sv sp ss))) (hA12 : h (m + 12) = some (.inr (.inl (0, 9, hh)))) (hA13 : h (m + 13) = some (.inr (.inl (0, 9, co)))) (hA14 : h (m + 14) = some (.inr (.inl (0, 729, po)))) (hg15 : h (m + 15) = some (.inr (.inl (0, 32, tp)))) (hg16 : h (m + 16) = some (.inr (.inl (0, 32, bt)))) (hg17 : h (m + 17) = some (.inr (.inl (0, 32, sz)))) (hg18 : h (m + 18) = some (.inr (.inl (0, 288, ch)))) (hg19 : h (m + 19) = some (.inr (.inl (0, 288, cc)))) (hg20 : h (m + 20) = some (.inr (.inl (0, 23328, cl)))) (hk : k1 < 32) (hc : c ≤ 4 ∧ c = (B k1).2.1) (hH : ∀ i, i < 9 → hh i = ((B k1).1 i : Int)) (hcm : ∀ a, a < c → (B k1).2.2.1 a < 81) (hco : ∀ a, a < c → co a = ((B k1).2.2.1 a : Int) ∧ ∀ x, x < 81 → po (81 * a + x) = (B k1).2.2.2 a x) (hce : ∀ a, a < c → ∀ q, (B k1).2.2.2 a q ≠ 0 → q < 81) (hpos : ∀ a, a < c → ∀ q : Nat, (B k1).2.2.2 a q ≠ 0 → (B k1).2.2.1 a % 9 < q % 9 → q / 9 < (B k1).2.2.1 a / 9) (hWW : ∀ w, IsW (zPair (B k1).2.1 (B k1).2.2.1 (B k1).2.2.2) w → w = W k1) (hrf : rfan k1 B W tp bt sz ch cc cl) (hw : n0 ≤ m) (hB4 : ∀ j, j < k1 → (B j).2.1 ≤ 4) (hQ : ∀ (tp1 bt1 sz1 ch1 cc1 cl1 : Nat → Int) (h' : zHp), (rfan (k1 + 1) B W tp1 bt1 sz1 ch1 cc1 cl1) → h' (m + 15) = some (.inr (.inl (0, 32, tp1))) → h' (m + 16) = some (.inr (.inl (0, 32, bt1))) → h' (m + 17) = some (.inr (.inl (0, 32, sz1))) → h' (m + 18) = some (.inr (.inl (0, 288, ch1))) → h' (m + 19) = some (.inr (.inl (0, 288, cc1))) → h' (m + 20) = some (.inr (.inl (0, 23328, cl1))) → (∀ q : Nat, q ≠ (m + 15) → q ≠ (m + 16) → q ≠ (m + 17) → q ≠ (m + 18) → q ≠ (m + 19) → q ≠ (m + 20) → h' q = h q) → Q none n k h') : ZT n0 g mX10_keep 0 (zloc mX10_keep [.inr (some m), .inl (k1 : Int)]) [] n k h Q := by
  show ZT n0 g mX10_keep 0 [some (.inr (some m)), some (.inl (k1 : Int)), none, none] [] n k h Q
  refine T_aload_n dX10_keep_0 rfl ?_
  refine T_getfield dX10_keep_1 zkf_11_63 hM rfl ?_
  refine T_iload_n dX10_keep_4 rfl ?_
  refine T_aload_n dX10_keep_5 rfl ?_
  refine T_getfield dX10_keep_6 zkf_11_152 hM rfl ?_
  refine T_iastoreN (m := k1) dX10_keep_9 hg17 rfl (by omega) (by omega) ?_
  refine T_iconst dX10_keep_10 (by decide) ?_
  refine T_istore_n dX10_keep_11 (Nat.le_of_ble_eq_true rfl) ?_
  exact m_X10_keep_12 hM hA12 hA13 hA14 hg15 hg16 hg17 hg18 hg19 hg20 hk hc hH hcm hco hce hpos hWW hrf hw hB4 hQ _ 0 _ _ _ _ _ rfl _ zup_self (zup_ne (by omega) hg18) (zup_ne (by omega) hg19) (zup_ne (by omega) hg20) (fun q q0 q1 q2 q3 => ((zup_nf q0).trans rfl)) (by omega) rfl ⟨fun _ _ => rfl, fun _ _ => rfl, fun _ _ => rfl⟩ (fun i hi => absurd hi (Nat.not_lt_zero i)) 
