/-! ===== the reference: order: printed by wip/whole/gen/s_ref1.py ===== -/
set_option maxHeartbeats 4000000 in
set_option maxRecDepth 100000 in
theorem m_X10_isIn {n0 n k : Nat} {g : Nat → zV} {h : zHp} {Q : Option zV → Nat → Nat → zHp → Prop} {v a b : Int}  (hT : (a ≤ v ∧ v ≤ b) → Q (some (.inl 1)) n k h) (hF : (¬ (a ≤ v ∧ v ≤ b)) → Q (some (.inl 0)) n k h) : ZT n0 g mX10_isIn 0 (zloc mX10_isIn [.inl v, .inl a, .inl b]) [] n k h Q := by
  show ZT n0 g mX10_isIn 0 [some (.inl v), some (.inl a), some (.inl b)] [] n k h Q
  refine T_iload_n dX10_isIn_0 rfl ?_
  refine T_iload_n dX10_isIn_1 rfl ?_
  refine T_icmp_lt dX10_isIn_2 (t := 14) rfl (fun c2 => ?_) (fun c2 => ?_)
  · refine T_iconst dX10_isIn_14 (by decide) ?_
    refine T_iret dX10_isIn_15 rfl ?_
    exact hF (by omega)
  · refine T_iload_n dX10_isIn_5 rfl ?_
    refine T_iload_n dX10_isIn_6 rfl ?_
    refine T_icmp_gt dX10_isIn_7 (t := 14) rfl (fun c7 => ?_) (fun c7 => ?_)
    · refine T_iconst dX10_isIn_14 (by decide) ?_
      refine T_iret dX10_isIn_15 rfl ?_
      exact hF (by omega)
    · refine T_iconst dX10_isIn_10 (by decide) ?_
      refine T_goto dX10_isIn_11 (t := 15) rfl ?_
      refine T_iret dX10_isIn_15 rfl ?_
      exact hT (by omega)
set_option maxHeartbeats 4000000 in
set_option maxRecDepth 100000 in
theorem m_X10_isExponent {n0 n k : Nat} {g : Nat → zV} {h : zHp} {Q : Option zV → Nat → Nat → zHp → Prop} {v : Int}  (hT : (0 ≤ v ∧ v < 9) → Q (some (.inl 1)) n k h) (hF : (¬ (0 ≤ v ∧ v < 9)) → Q (some (.inl 0)) n k h) : ZT n0 g mX10_isExponent 0 (zloc mX10_isExponent [.inl v]) [] n k h Q := by
  show ZT n0 g mX10_isExponent 0 [some (.inl v)] [] n k h Q
  refine T_iload_n dX10_isExponent_0 rfl ?_
  refine T_iconst dX10_isExponent_1 (by decide) ?_
  refine T_bipush dX10_isExponent_2 (by decide) ?_
  refine T_callS dX10_isExponent_4 zkm_11_114 ⟨Nat.le_of_ble_eq_true rfl, Nat.le_of_ble_eq_true rfl, rfl⟩ rfl (Nat.le_of_ble_eq_true rfl) ?_
  refine m_X10_isIn   (fun k4a => ?_) (fun k4a_2 => ?_)
  · refine T_iret dX10_isExponent_7 rfl ?_
    exact hT (by omega)
  · refine T_iret dX10_isExponent_7 rfl ?_
    exact hF (by omega)
set_option maxHeartbeats 4000000 in
set_option maxRecDepth 100000 in
theorem m_X10_isPoint {n0 n k : Nat} {g : Nat → zV} {h : zHp} {Q : Option zV → Nat → Nat → zHp → Prop} {m s z c : Nat} {p fk cn ln en ax nu wr sv sp ss : Int} {v : Int} (hM : h m = some (.inl (11, mOb m p (s : Int) fk (z : Int) (c : Int) cn ln en ax nu wr sv sp ss))) (hs : s ≤ 8) (hT : (0 ≤ v ∧ v < (s : Int)) → Q (some (.inl 1)) n k h) (hF : (¬ (0 ≤ v ∧ v < (s : Int))) → Q (some (.inl 0)) n k h) : ZT n0 g mX10_isPoint 0 (zloc mX10_isPoint [.inr (some m), .inl v]) [] n k h Q := by
  show ZT n0 g mX10_isPoint 0 [some (.inr (some m)), some (.inl v)] [] n k h Q
  refine T_iload_n dX10_isPoint_0 rfl ?_
  refine T_iconst dX10_isPoint_1 (by decide) ?_
  refine T_aload_n dX10_isPoint_2 rfl ?_
  refine T_getfield dX10_isPoint_3 zkf_11_111 hM rfl ?_
  refine T_iconst dX10_isPoint_6 (by decide) ?_
  refine T_isub dX10_isPoint_7 ⟨by omega, by omega⟩ ?_
  refine T_callS dX10_isPoint_8 zkm_11_114 ⟨Nat.le_of_ble_eq_true rfl, Nat.le_of_ble_eq_true rfl, rfl⟩ rfl (Nat.le_of_ble_eq_true rfl) ?_
  refine m_X10_isIn   (fun k8a => ?_) (fun k8a_2 => ?_)
  · refine T_iret dX10_isPoint_11 rfl ?_
    exact hT (by omega)
  · refine T_iret dX10_isPoint_11 rfl ?_
    exact hF (by omega)
set_option maxHeartbeats 4000000 in
set_option maxRecDepth 100000 in
theorem m_X10_power_10 {n0 n k : Nat} {g : Nat → zV} {h : zHp} {Q : Option zV → Nat → Nat → zHp → Prop} {m s z c : Nat} {p fk cn ln en ax nu wr sv sp ss : Int} {x : Int} {e : Nat} (hM : h m = some (.inl (11, mOb m p (s : Int) fk (z : Int) (c : Int) cn ln en ax nu wr sv sp ss))) (hp : 1 < p ∧ p < 32) (hx : 0 ≤ x ∧ x < p) (he : e ≤ 8) (hQ : Q (some (.inl (zpow p x e))) n k h) : ∀ (d : Nat) (j : Nat) (w : Int), e - j = d → (j ≤ e) → (w = zpow p x j) → ZT n0 g mX10_power 10 [some (.inr (some m)), some (.inl x), some (.inl (e : Int)), some (.inl w), some (.inl (j : Int))] [] n k h Q := by
  intro d
  induction d using Nat.strongRecOn with | _ d ih => ?_
  intro j w hd0 hj hw
  subst hd0
  have hb := zpow_bd (b := x) hp.1 j
  rw [← hw] at hb
  refine T_iload dX10_power_10 rfl ?_
  refine T_iload_n dX10_power_12 rfl ?_
  refine T_icmp_ge dX10_power_13 (t := 31) rfl (fun c13 => ?_) (fun c13 => ?_)
  · refine T_iload_n dX10_power_31 rfl ?_
    refine T_iret dX10_power_32 rfl ?_
    rw [hw, show j = e by omega]
    exact hQ
  · refine T_iload_n dX10_power_16 rfl ?_
    refine T_iload_n dX10_power_17 rfl ?_
    have mw := zmul_le hb.1 (show w ≤ 32 by omega) hx.1 (show x ≤ 32 by omega)
    refine T_imul dX10_power_18 (zmulR (by omega) (by omega) (by omega) (by omega)) ?_
    refine T_aload_n dX10_power_19 rfl ?_
    refine T_getfield dX10_power_20 zkf_11_7 hM rfl ?_
    refine T_iremN dX10_power_23 ⟨by omega, by omega⟩ (by omega) ?_
    have r23 := zmod_bd (w * x) p (by omega)
    refine T_istore_n dX10_power_24 (Nat.le_of_ble_eq_true rfl) ?_
    refine T_iinc dX10_power_25 rfl ⟨by omega, by omega⟩ ?_
    refine T_goto dX10_power_28 (t := 10) rfl ?_
    exact ih _ (by omega) (j + 1) ((w * x) % p) rfl  (by omega) (by rw [hw]; rfl) 
set_option maxHeartbeats 4000000 in
set_option maxRecDepth 100000 in
theorem m_X10_power {n0 n k : Nat} {g : Nat → zV} {h : zHp} {Q : Option zV → Nat → Nat → zHp → Prop} {m s z c : Nat} {p fk cn ln en ax nu wr sv sp ss : Int} {x : Int} {e : Nat} (hM : h m = some (.inl (11, mOb m p (s : Int) fk (z : Int) (c : Int) cn ln en ax nu wr sv sp ss))) (hp : 1 < p ∧ p < 32) (hx : 0 ≤ x ∧ x < p) (he : e ≤ 8) (hQ : Q (some (.inl (zpow p x e))) n k h) : ZT n0 g mX10_power 0 (zloc mX10_power [.inr (some m), .inl x, .inl (e : Int)]) [] n k h Q := by
  show ZT n0 g mX10_power 0 [some (.inr (some m)), some (.inl x), some (.inl (e : Int)), none, none] [] n k h Q
  refine T_iconst dX10_power_0 (by decide) ?_
  refine T_aload_n dX10_power_1 rfl ?_
  refine T_getfield dX10_power_2 zkf_11_7 hM rfl ?_
  refine T_iremN dX10_power_5 ⟨by omega, by omega⟩ (by omega) ?_
  have r5 := zmod_bd 1 p (by omega)
  refine T_istore_n dX10_power_6 (Nat.le_of_ble_eq_true rfl) ?_
  refine T_iconst dX10_power_7 (by decide) ?_
  refine T_istore dX10_power_8 (Nat.le_of_ble_eq_true rfl) ?_
  exact m_X10_power_10 hM hp hx he hQ _ 0 (1 % p) rfl  (by omega) (zone_mod hp.1) 
set_option maxHeartbeats 4000000 in
set_option maxRecDepth 100000 in
theorem m_X10_inverse_2 {n0 n k : Nat} {g : Nat → zV} {h : zHp} {Q : Option zV → Nat → Nat → zHp → Prop} {m s z c : Nat} {p fk cn ln en ax nu wr sv sp ss : Int} {v : Int} (hM : h m = some (.inl (11, mOb m p (s : Int) fk (z : Int) (c : Int) cn ln en ax nu wr sv sp ss))) (hp : zprime p) (hv : 0 < v ∧ v < p) (hQ : Q (some (.inl (zinv p v))) n k h) : ∀ (d : Nat) (j : Nat), 40 - j = d → (1 ≤ j ∧ (j : Int) ≤ zinv p v) → (∀ i : Nat, 1 ≤ i → i < j → ¬ (i : Int) * v % p = 1) → ZT n0 g mX10_inverse 2 [some (.inr (some m)), some (.inl v), some (.inl (j : Int))] [] n k h Q := by
  intro d
  induction d using Nat.strongRecOn with | _ d ih => ?_
  intro j hd0 hj hn
  subst hd0
  have hpb := hp.bd
  have hz := zinv_spec hp hv.1 hv.2
  refine T_iload_n dX10_inverse_2 rfl ?_
  refine T_iload_n dX10_inverse_3 rfl ?_
  have mw := zmul_le (show (0 : Int) ≤ j by omega) (show (j : Int) ≤ 32 by omega) (show 0 ≤ v by omega) (show v ≤ 32 by omega)
  refine T_imul dX10_inverse_4 (zmulR (by omega) (by omega) (by omega) (by omega)) ?_
  refine T_aload_n dX10_inverse_5 rfl ?_
  refine T_getfield dX10_inverse_6 zkf_11_7 hM rfl ?_
  refine T_iremN dX10_inverse_9 ⟨by omega, by omega⟩ (by omega) ?_
  have r9 := zmod_bd ((j : Int) * v) p (by omega)
  refine T_iconst dX10_inverse_10 (by decide) ?_
  refine T_icmp_eq dX10_inverse_11 (t := 20) rfl (fun c11 => ?_) (fun c11 => ?_)
  · refine T_iload_n dX10_inverse_20 rfl ?_
    refine T_iret dX10_inverse_21 rfl ?_
    rw [← zinv_of hj.1 (by omega) c11 hn]
    exact hQ
  · refine T_iinc dX10_inverse_14 rfl ⟨by omega, by omega⟩ ?_
    refine T_goto dX10_inverse_17 (t := 2) rfl ?_
    exact ih _ (by omega) (j + 1) rfl  ⟨by omega, by
          by_cases e : (j : Int) = zinv p v
          · rw [e] at c11; exact absurd hz.2.2 c11
          · omega⟩ (fun i a b => by
          by_cases e : i = j
          · subst e; omega
          · exact hn i a (by omega)) 
set_option maxHeartbeats 4000000 in
set_option maxRecDepth 100000 in
theorem m_X10_inverse {n0 n k : Nat} {g : Nat → zV} {h : zHp} {Q : Option zV → Nat → Nat → zHp → Prop} {m s z c : Nat} {p fk cn ln en ax nu wr sv sp ss : Int} {v : Int} (hM : h m = some (.inl (11, mOb m p (s : Int) fk (z : Int) (c : Int) cn ln en ax nu wr sv sp ss))) (hp : zprime p) (hv : 0 < v ∧ v < p) (hQ : Q (some (.inl (zinv p v))) n k h) : ZT n0 g mX10_inverse 0 (zloc mX10_inverse [.inr (some m), .inl v]) [] n k h Q := by
  show ZT n0 g mX10_inverse 0 [some (.inr (some m)), some (.inl v), none] [] n k h Q
  have hpb := hp.bd
  refine T_iconst dX10_inverse_0 (by decide) ?_
  refine T_istore_n dX10_inverse_1 (Nat.le_of_ble_eq_true rfl) ?_
  have hz := zinv_spec hp hv.1 hv.2
  exact m_X10_inverse_2 hM hp hv hQ _ 1 rfl  (by omega) (fun i a b => by omega) 
set_option maxHeartbeats 4000000 in
set_option maxRecDepth 100000 in
theorem m_X10_isGreater {n0 n k : Nat} {g : Nat → zV} {h : zHp} {Q : Option zV → Nat → Nat → zHp → Prop} {a d : Nat} {u v tie : Int} (huv : 0 ≤ u ∧ u ≤ 99 ∧ 0 ≤ v ∧ v ≤ 99) (ht : tie = 0 ∨ tie = 1) (ha : a < 81 ∧ d < 81) (hT : (zlt u v tie d a) → Q (some (.inl 1)) n k h) (hF : (¬ zlt u v tie d a) → Q (some (.inl 0)) n k h) : ZT n0 g mX10_isGreater 0 (zloc mX10_isGreater [.inl (a : Int), .inl (d : Int), .inl u, .inl v, .inl tie]) [] n k h Q := by
  show ZT n0 g mX10_isGreater 0 [some (.inl (a : Int)), some (.inl (d : Int)), some (.inl u), some (.inl v), some (.inl tie), none, none, none, none, none] [] n k h Q
  refine T_iload_n dX10_isGreater_0 rfl ?_
  refine T_bipush dX10_isGreater_1 (by decide) ?_
  refine T_idivN dX10_isGreater_3 ⟨by omega, by omega⟩ (by omega) ?_
  refine T_istore dX10_isGreater_4 (Nat.le_of_ble_eq_true rfl) ?_
  refine T_iload_n dX10_isGreater_6 rfl ?_
  refine T_bipush dX10_isGreater_7 (by decide) ?_
  refine T_iremN dX10_isGreater_9 ⟨by omega, by omega⟩ (by omega) ?_
  refine T_istore dX10_isGreater_10 (Nat.le_of_ble_eq_true rfl) ?_
  refine T_iload_n dX10_isGreater_12 rfl ?_
  refine T_bipush dX10_isGreater_13 (by decide) ?_
  refine T_idivN dX10_isGreater_15 ⟨by omega, by omega⟩ (by omega) ?_
  refine T_istore dX10_isGreater_16 (Nat.le_of_ble_eq_true rfl) ?_
  refine T_iload_n dX10_isGreater_18 rfl ?_
  refine T_bipush dX10_isGreater_19 (by decide) ?_
  refine T_iremN dX10_isGreater_21 ⟨by omega, by omega⟩ (by omega) ?_
  refine T_istore dX10_isGreater_22 (Nat.le_of_ble_eq_true rfl) ?_
  refine T_iload_n dX10_isGreater_24 rfl ?_
  refine T_iload dX10_isGreater_25 rfl ?_
  refine T_iload dX10_isGreater_27 rfl ?_
  refine T_isub dX10_isGreater_29 ⟨by omega, by omega⟩ ?_
  have n1 := zmulS (u := u) (d := (a : Int) / 9 - (d : Int) / 9) ⟨huv.1, huv.2.1⟩ ⟨by omega, by omega⟩
  refine T_imul dX10_isGreater_30 ⟨by omega, by omega⟩ ?_
  refine T_iload_n dX10_isGreater_31 rfl ?_
  refine T_iload dX10_isGreater_32 rfl ?_
  refine T_iload dX10_isGreater_34 rfl ?_
  refine T_isub dX10_isGreater_36 ⟨by omega, by omega⟩ ?_
  have n2 := zmulS (u := v) (d := (a : Int) % 9 - (d : Int) % 9) ⟨huv.2.2.1, huv.2.2.2⟩ ⟨by omega, by omega⟩
  refine T_imul dX10_isGreater_37 ⟨by omega, by omega⟩ ?_
  refine T_iadd dX10_isGreater_38 ⟨by omega, by omega⟩ ?_
  refine T_istore dX10_isGreater_39 (Nat.le_of_ble_eq_true rfl) ?_
  have dw := zwt_diff (u := u) (v := v) (m := a) (n := d)
  refine T_iload dX10_isGreater_41 rfl ?_
  refine T_if_eq dX10_isGreater_43 (t := 57) rfl (fun c43 => ?_) (fun c43 => ?_)
  · refine T_iload dX10_isGreater_57 rfl ?_
    refine T_if_ne dX10_isGreater_59 (t := 91) rfl (fun c59 => ?_) (fun c59 => ?_)
    · refine T_iload dX10_isGreater_91 rfl ?_
      refine T_iload dX10_isGreater_93 rfl ?_
      refine T_icmp_gt dX10_isGreater_95 (t := 112) rfl (fun c95 => ?_) (fun c95 => ?_)
      · refine T_iconst dX10_isGreater_112 (by decide) ?_
        refine T_goto dX10_isGreater_113 (t := 117) rfl ?_
        refine T_iret dX10_isGreater_117 rfl ?_
        exact hT (by unfold zlt; omega)
      · refine T_iload dX10_isGreater_98 rfl ?_
        refine T_iload dX10_isGreater_100 rfl ?_
        refine T_icmp_ne dX10_isGreater_102 (t := 116) rfl (fun c102 => ?_) (fun c102 => ?_)
        · refine T_iconst dX10_isGreater_116 (by decide) ?_
          refine T_iret dX10_isGreater_117 rfl ?_
          exact hF (by unfold zlt; omega)
        · refine T_iload dX10_isGreater_105 rfl ?_
          refine T_iload dX10_isGreater_107 rfl ?_
          refine T_icmp_le dX10_isGreater_109 (t := 116) rfl (fun c109 => ?_) (fun c109 => ?_)
          · refine T_iconst dX10_isGreater_116 (by decide) ?_
            refine T_iret dX10_isGreater_117 rfl ?_
            exact hF (by unfold zlt; omega)
          · refine T_iconst dX10_isGreater_112 (by decide) ?_
            refine T_goto dX10_isGreater_113 (t := 117) rfl ?_
            refine T_iret dX10_isGreater_117 rfl ?_
            exact hT (by unfold zlt; omega)
    · refine T_iload dX10_isGreater_62 rfl ?_
      refine T_iload dX10_isGreater_64 rfl ?_
      refine T_icmp_gt dX10_isGreater_66 (t := 83) rfl (fun c66 => ?_) (fun c66 => ?_)
      · refine T_iconst dX10_isGreater_83 (by decide) ?_
        refine T_goto dX10_isGreater_84 (t := 117) rfl ?_
        refine T_iret dX10_isGreater_117 rfl ?_
        exact hT (by unfold zlt; omega)
      · refine T_iload dX10_isGreater_69 rfl ?_
        refine T_iload dX10_isGreater_71 rfl ?_
        refine T_icmp_ne dX10_isGreater_73 (t := 87) rfl (fun c73 => ?_) (fun c73 => ?_)
        · refine T_iconst dX10_isGreater_87 (by decide) ?_
          refine T_goto dX10_isGreater_88 (t := 117) rfl ?_
          refine T_iret dX10_isGreater_117 rfl ?_
          exact hF (by unfold zlt; omega)
        · refine T_iload dX10_isGreater_76 rfl ?_
          refine T_iload dX10_isGreater_78 rfl ?_
          refine T_icmp_le dX10_isGreater_80 (t := 87) rfl (fun c80 => ?_) (fun c80 => ?_)
          · refine T_iconst dX10_isGreater_87 (by decide) ?_
            refine T_goto dX10_isGreater_88 (t := 117) rfl ?_
            refine T_iret dX10_isGreater_117 rfl ?_
            exact hF (by unfold zlt; omega)
          · refine T_iconst dX10_isGreater_83 (by decide) ?_
            refine T_goto dX10_isGreater_84 (t := 117) rfl ?_
            refine T_iret dX10_isGreater_117 rfl ?_
            exact hT (by unfold zlt; omega)
  · refine T_iload dX10_isGreater_46 rfl ?_
    refine T_if_le dX10_isGreater_48 (t := 55) rfl (fun c48 => ?_) (fun c48 => ?_)
    · refine T_iconst dX10_isGreater_55 (by decide) ?_
      refine T_iret dX10_isGreater_56 rfl ?_
      exact hF (by unfold zlt; omega)
    · refine T_iconst dX10_isGreater_51 (by decide) ?_
      refine T_goto dX10_isGreater_52 (t := 56) rfl ?_
      refine T_iret dX10_isGreater_56 rfl ?_
      exact hT (by unfold zlt; omega)
set_option maxHeartbeats 4000000 in
set_option maxRecDepth 100000 in
theorem m_X10_sort_14 {n0 n k : Nat} {g : Nat → zV} {h : zHp} {Q : Option zV → Nat → Nat → zHp → Prop} {m s z c : Nat} {p fk cn ln en ax nu wr sv sp ss : Int} {u v tie : Int} {od0 : Nat → Int} (hM : h m = some (.inl (11, mOb m p (s : Int) fk (z : Int) (c : Int) cn ln en ax nu wr sv sp ss))) (hO : h (m + 4) = some (.inr (.inl (0, 81, od0)))) (huv : 0 ≤ u ∧ u ≤ 99 ∧ 0 ≤ v ∧ v ≤ 99) (ht : tie = 0 ∨ tie = 1) (hw : n0 ≤ m)  : ∀ (d : Nat) (j : Nat) (o : Nat → Nat) (q : Nat) (od : Nat → Int), q = d → ∀ h1 : zHp, h1 (m + 4) = some (.inr (.inl (0, 81, od))) → (∀ q : Nat, q ≠ (m + 4) → h1 q = h q) → (j < 81) → (IsOrd u v tie j o) → (q ≤ j) → (∀ k, k < q → od k = (o k : Int)) → (∀ k, q < k → k ≤ j → od k = (o (k - 1) : Int)) → (∀ k, q ≤ k → k < j → zlt u v tie j (o k)) → (∀ (q : Nat) (od : Nat → Int) (h' : zHp), (q ≤ j) → (∀ k, k < q → od k = (o k : Int)) → (∀ k, q < k → k ≤ j → od k = (o (k - 1) : Int)) → (∀ k, q ≤ k → k < j → zlt u v tie j (o k)) → (∀ k, k < q → zlt u v tie (o k) j) → h' (m + 4) = some (.inr (.inl (0, 81, od))) → (∀ q : Nat, q ≠ (m + 4) → h' q = h q) → ZT n0 g mX10_sort 61 [some (.inr (some m)), some (.inl u), some (.inl v), some (.inl tie), some (.inl (j : Int)), some (.inl (q : Int))] [] n k h' Q) → ZT n0 g mX10_sort 14 [some (.inr (some m)), some (.inl u), some (.inl v), some (.inl tie), some (.inl (j : Int)), some (.inl (q : Int))] [] n k h1 Q := by
  intro d
  induction d using Nat.strongRecOn with | _ d ih => ?_
  intro j o q od hd0 h1 g4 hfr hj ho hq hl hg hz kk61
  subst hd0
  refine T_iload dX10_sort_14 rfl ?_
  refine T_if_le dX10_sort_16 (t := 61) rfl (fun c16 => ?_) (fun c16 => ?_)
  · exact kk61 q od _ (by omega) hl hg hz (fun k hk => by omega) g4 (fun q q0 => ((hfr _ q0).trans rfl))
  · obtain ⟨r, hr⟩ : ∃ r, q = r + 1 := ⟨q - 1, by omega⟩
    have hor := ho.1 r (by omega)
    refine T_aload_n dX10_sort_19 rfl ?_
    refine T_getfield dX10_sort_20 zkf_11_23 ((hfr _ (by omega)).trans hM) rfl ?_
    refine T_iload dX10_sort_23 rfl ?_
    refine T_iconst dX10_sort_25 (by decide) ?_
    refine T_isub dX10_sort_26 ⟨by omega, by omega⟩ ?_
    refine T_ialoadN (m := r) dX10_sort_27 g4 (by omega) (by omega) ?_
    rw [hl r (by omega)]
    refine T_iload dX10_sort_28 rfl ?_
    refine T_iload_n dX10_sort_30 rfl ?_
    refine T_iload_n dX10_sort_31 rfl ?_
    refine T_iload_n dX10_sort_32 rfl ?_
    refine T_callS dX10_sort_33 zkm_11_132 ⟨Nat.le_of_ble_eq_true rfl, Nat.le_of_ble_eq_true rfl, rfl⟩ rfl (Nat.le_of_ble_eq_true rfl) ?_
    refine m_X10_isGreater (a := (o r))  (by omega) (by omega) (by omega) (fun k33a => ?_) (fun k33a_2 => ?_)
    · refine T_if_eq dX10_sort_36 (t := 61) rfl (fun hc => absurd hc (by decide)) (fun _ => ?_)
      refine T_aload_n dX10_sort_39 rfl ?_
      refine T_getfield dX10_sort_40 zkf_11_23 ((hfr _ (by omega)).trans hM) rfl ?_
      refine T_iload dX10_sort_43 rfl ?_
      refine T_aload_n dX10_sort_45 rfl ?_
      refine T_getfield dX10_sort_46 zkf_11_23 ((hfr _ (by omega)).trans hM) rfl ?_
      refine T_iload dX10_sort_49 rfl ?_
      refine T_iconst dX10_sort_51 (by decide) ?_
      refine T_isub dX10_sort_52 ⟨by omega, by omega⟩ ?_
      refine T_ialoadN (m := r) dX10_sort_53 g4 (by omega) (by omega) ?_
      refine T_iastoreN (m := q) dX10_sort_54 g4 rfl (by omega) (by omega) ?_
      refine T_iinc dX10_sort_55 rfl ⟨by omega, by omega⟩ ?_
      refine T_goto dX10_sort_58 (t := 14) rfl ?_
      rw [show ((q : Int) + -1) = (r : Int) by omega]
      exact ih _ (by omega) j o r _ rfl _ zup_self (fun q q0 => ((zup_nf q0).trans ((hfr _ q0).trans rfl))) (by omega) ho (by omega) (fun k hk => by rw [zfu_ne (by omega)]; exact hl k (by omega)) (fun k h1 h2 => by
            by_cases e : k = q
            · rw [e, zfu_self, show q - 1 = r by omega]; exact hl r (by omega)
            · rw [zfu_ne e]; exact hg k (by omega) h2) (fun k h1 h2 => by
            by_cases e : k = r
            · subst e; exact k33a
            · exact hz k (by omega) h2) kk61
    · refine T_if_eq dX10_sort_36 (t := 61) rfl (fun _ => ?_) (fun hc => absurd hc (by decide))
      exact kk61 q od _ (by omega) hl hg hz (fun k hk => by
            have h1 : zlt u v tie (o r) j := (zlt_tot (by omega)).resolve_right k33a_2
            by_cases e : k = r
            · subst e; exact h1
            · exact zlt_tr (ho.2.2 k r (by omega) (by omega)) h1) g4 (fun q q0 => ((hfr _ q0).trans rfl))
set_option maxHeartbeats 4000000 in
set_option maxRecDepth 100000 in
theorem m_X10_sort_3 {n0 n k : Nat} {g : Nat → zV} {h : zHp} {Q : Option zV → Nat → Nat → zHp → Prop} {m s z c : Nat} {p fk cn ln en ax nu wr sv sp ss : Int} {u v tie : Int} {od0 : Nat → Int} (hM : h m = some (.inl (11, mOb m p (s : Int) fk (z : Int) (c : Int) cn ln en ax nu wr sv sp ss))) (hO : h (m + 4) = some (.inr (.inl (0, 81, od0)))) (huv : 0 ≤ u ∧ u ≤ 99 ∧ 0 ≤ v ∧ v ≤ 99) (ht : tie = 0 ∨ tie = 1) (hw : n0 ≤ m) (hQ : ∀ (o : Nat → Nat) (od' : Nat → Int) (h' : zHp), (IsOrd u v tie 81 o) → (∀ k, k < 81 → od' k = (o k : Int)) → h' (m + 4) = some (.inr (.inl (0, 81, od'))) → (∀ q : Nat, q ≠ (m + 4) → h' q = h q) → Q none n k h') : ∀ (d : Nat) (j : Nat) (o : Nat → Nat) (od : Nat → Int) (L5 : Option zV), 81 - j = d → ∀ h1 : zHp, h1 (m + 4) = some (.inr (.inl (0, 81, od))) → (∀ q : Nat, q ≠ (m + 4) → h1 q = h q) → (j ≤ 81) → (IsOrd u v tie j o) → (∀ k, k < j → od k = (o k : Int)) → ZT n0 g mX10_sort 3 [some (.inr (some m)), some (.inl u), some (.inl v), some (.inl tie), some (.inl (j : Int)), L5] [] n k h1 Q := by
  intro d
  induction d using Nat.strongRecOn with | _ d ih => ?_
  intro j o od L5 hd0 h1 g4 hfr hj ho hod
  subst hd0
  refine T_iload dX10_sort_3 rfl ?_
  refine T_bipush dX10_sort_5 (by decide) ?_
  refine T_icmp_ge dX10_sort_7 (t := 76) rfl (fun c7 => ?_) (fun c7 => ?_)
  · refine T_vret dX10_sort_76 rfl ?_
    exact hQ o od _ (by rw [show 81 = j by omega]; exact ho) (fun k hk => hod k (by omega)) g4 (fun q q0 => ((hfr _ q0).trans rfl))
  · refine T_iload dX10_sort_10 rfl ?_
    refine T_istore dX10_sort_12 (Nat.le_of_ble_eq_true rfl) ?_
    refine m_X10_sort_14 hM hO huv ht hw _ j o j od rfl _ g4 (fun q q0 => ((hfr _ q0).trans rfl)) (by omega) ho (by omega) hod (fun k a b => by omega) (fun k a b => by omega) (fun q61 od61 hh61 xq_61 xl_61 xg_61 xz_61 xs_61 g4_61 fr_61 => ?_)
    refine T_aload_n dX10_sort_61 rfl ?_
    refine T_getfield dX10_sort_62 zkf_11_23 ((fr_61 _ (by omega)).trans hM) rfl ?_
    refine T_iload dX10_sort_65 rfl ?_
    refine T_iload dX10_sort_67 rfl ?_
    refine T_iastoreN (m := q61) dX10_sort_69 g4_61 rfl (by omega) (by omega) ?_
    refine T_iinc dX10_sort_70 rfl ⟨by omega, by omega⟩ ?_
    refine T_goto dX10_sort_73 (t := 3) rfl ?_
    exact ih _ (by omega) (j + 1) (fun k => if k < q61 then o k else if k = q61 then j else o (k - 1)) _ _ rfl _ zup_self (fun q q0 => ((zup_nf q0).trans ((fr_61 _ q0).trans rfl))) (by omega) (ho.ins xq_61 xs_61 xz_61 (fun k _ => rfl)) (fun k hk => by
          by_cases e : k = q61
          · rw [e, zfu_self]; simp
          · rw [zfu_ne e]
            by_cases e2 : k < q61
            · simp only [if_pos e2]; exact xl_61 k e2
            · simp only [if_neg e2, if_neg e]; exact xg_61 k (by omega) (by omega)) 
set_option maxHeartbeats 4000000 in
set_option maxRecDepth 100000 in
theorem m_X10_sort {n0 n k : Nat} {g : Nat → zV} {h : zHp} {Q : Option zV → Nat → Nat → zHp → Prop} {m s z c : Nat} {p fk cn ln en ax nu wr sv sp ss : Int} {u v tie : Int} {od0 : Nat → Int} (hM : h m = some (.inl (11, mOb m p (s : Int) fk (z : Int) (c : Int) cn ln en ax nu wr sv sp ss))) (hO : h (m + 4) = some (.inr (.inl (0, 81, od0)))) (huv : 0 ≤ u ∧ u ≤ 99 ∧ 0 ≤ v ∧ v ≤ 99) (ht : tie = 0 ∨ tie = 1) (hw : n0 ≤ m) (hQ : ∀ (o : Nat → Nat) (od' : Nat → Int) (h' : zHp), (IsOrd u v tie 81 o) → (∀ k, k < 81 → od' k = (o k : Int)) → h' (m + 4) = some (.inr (.inl (0, 81, od'))) → (∀ q : Nat, q ≠ (m + 4) → h' q = h q) → Q none n k h') : ZT n0 g mX10_sort 0 (zloc mX10_sort [.inr (some m), .inl u, .inl v, .inl tie]) [] n k h Q := by
  show ZT n0 g mX10_sort 0 [some (.inr (some m)), some (.inl u), some (.inl v), some (.inl tie), none, none] [] n k h Q
  refine T_iconst dX10_sort_0 (by decide) ?_
  refine T_istore dX10_sort_1 (Nat.le_of_ble_eq_true rfl) ?_
  exact m_X10_sort_3 hM hO huv ht hw hQ _ 0 (fun _ => 0) od0 _ rfl _ hO (fun q q0 => rfl) (by omega) ⟨fun k hk => absurd hk (Nat.not_lt_zero k), fun k hk => absurd hk (Nat.not_lt_zero k), fun i k _ hk => absurd hk (Nat.not_lt_zero k)⟩ (fun k hk => absurd hk (Nat.not_lt_zero k)) 
