/-! ===== StringBuilder: printed by wip/whole/gen/s_sb.py ===== -/
theorem zishr0 {x : Int} (h : zR x) : zbit (fun a b => a >>> (b &&& 31)) x 0 = x := by
  have e : ∀ a : Int32, a >>> (Int32.ofInt 0 &&& 31) = a := fun a => by
    rw [show (Int32.ofInt 0 &&& 31 : Int32) = 0 by decide]
    exact Int32.shiftRight_zero
  show (Int32.ofInt x >>> (Int32.ofInt 0 &&& 31)).toInt = x
  rw [e]; exact zI_toInt h
theorem zishl0 {x : Int} (h : zR x) : zbit (fun a b => a <<< (b &&& 31)) x 0 = x := by
  have e : ∀ a : Int32, a <<< (Int32.ofInt 0 &&& 31) = a := fun a => by
    rw [show (Int32.ofInt 0 &&& 31 : Int32) = 0 by decide]
    exact Int32.shiftLeft_zero
  show (Int32.ofInt x <<< (Int32.ofInt 0 &&& 31)).toInt = x
  rw [e]; exact zI_toInt h
theorem zfitB {x : Int} (h : -128 ≤ x ∧ x ≤ 127) : zfit (zty 1) (.inl x) = true := by
  show decide (-128 ≤ x ∧ x ≤ 127) = true
  exact decide_eq_true h
/-- a StringBuilder of bytes at a, its bytes at vb -/
def sbA (h : zHp) (a : Nat) (O : tT) (vb N : Nat) : Prop := ∃ (by' : Nat → Int) (ml : Int), h a = some (.inl (0, [.inr (some vb), .inl 0, .inl ml, .inl (O.1 : Int)])) ∧ h vb = some (.inr (.inl (1, N, by'))) ∧ O.1 ≤ N ∧ N ≤ 200 ∧ ∀ i, i < O.1 → by' i = O.2 i
theorem zand255 : ∀ x : Nat, x < 256 → zbit (fun a b => a &&& b) (x : Int) 255 = x := by decide +kernel
set_option maxHeartbeats 4000000 in
set_option maxRecDepth 100000 in
theorem m_J5_length_8abf5 {n0 n k : Nat} {g : Nat → zV} {h : zHp} {Q : Option zV → Nat → Nat → zHp → Prop} {a vb c : Nat} {ml : Int} (s0 : h a = some (.inl (0, [.inr (some vb), .inl 0, .inl ml, .inl (c : Int)]))) (hQ : Q (some (.inl (c : Int))) n k h) : ZT n0 g mJ5_length_8abf5 0 (zloc mJ5_length_8abf5 [.inr (some a)]) [] n k h Q := by
  show ZT n0 g mJ5_length_8abf5 0 [some (.inr (some a))] [] n k h Q
  refine T_aload_n dJ5_length_8abf5_0 rfl ?_
  refine T_getfield dJ5_length_8abf5_1 zkf_25_79 s0 rfl ?_
  refine T_iret dJ5_length_8abf5_4 rfl ?_
  exact hQ
set_option maxHeartbeats 4000000 in
set_option maxRecDepth 100000 in
theorem m_J4_length_8abf5 {n0 n k : Nat} {g : Nat → zV} {h : zHp} {Q : Option zV → Nat → Nat → zHp → Prop} {a vb c : Nat} {ml : Int} (s0 : h a = some (.inl (0, [.inr (some vb), .inl 0, .inl ml, .inl (c : Int)]))) (hQ : Q (some (.inl (c : Int))) n k h) : ZT n0 g mJ4_length_8abf5 0 (zloc mJ4_length_8abf5 [.inr (some a)]) [] n k h Q := by
  show ZT n0 g mJ4_length_8abf5 0 [some (.inr (some a))] [] n k h Q
  refine T_aload_n dJ4_length_8abf5_0 rfl ?_
  refine T_callU dJ4_length_8abf5_1 zkm_0_343 rfl s0 ⟨Nat.le_of_ble_eq_true rfl, rfl⟩ rfl (Nat.le_of_ble_eq_true rfl) ?_
  refine m_J5_length_8abf5 s0  ?_
  refine T_iret dJ4_length_8abf5_4 rfl ?_
  exact hQ
set_option maxHeartbeats 4000000 in
set_option maxRecDepth 100000 in
theorem m_J5_isLatin1_aae02 {n0 n k : Nat} {g : Nat → zV} {h : zHp} {Q : Option zV → Nat → Nat → zHp → Prop} {a vb c : Nat} {ml : Int} (s0 : h a = some (.inl (0, [.inr (some vb), .inl 0, .inl ml, .inl (c : Int)]))) (hg0 : g 0 = .inl 1) (hQ : Q (some (.inl 1)) n k h) : ZT n0 g mJ5_isLatin1_aae02 0 (zloc mJ5_isLatin1_aae02 [.inr (some a)]) [] n k h Q := by
  show ZT n0 g mJ5_isLatin1_aae02 0 [some (.inr (some a))] [] n k h Q
  refine T_getstatic dJ5_isLatin1_aae02_0 zks_25_18 ?_
  rw [hg0]
  refine T_if_eq dJ5_isLatin1_aae02_3 (t := 17) rfl (fun hc => absurd hc (by decide)) (fun _ => ?_)
  refine T_aload_n dJ5_isLatin1_aae02_6 rfl ?_
  refine T_getfield dJ5_isLatin1_aae02_7 zkf_25_22 s0 rfl ?_
  refine T_if_ne dJ5_isLatin1_aae02_10 (t := 17) rfl (fun hc => absurd hc (by decide)) (fun _ => ?_)
  refine T_iconst dJ5_isLatin1_aae02_13 (by decide) ?_
  refine T_goto dJ5_isLatin1_aae02_14 (t := 18) rfl ?_
  refine T_iret dJ5_isLatin1_aae02_18 rfl ?_
  exact hQ
set_option maxHeartbeats 4000000 in
set_option maxRecDepth 100000 in
theorem m_J1_canEncode_fc78d {n0 n k : Nat} {g : Nat → zV} {h : zHp} {Q : Option zV → Nat → Nat → zHp → Prop} {x : Int} (hx : 0 ≤ x ∧ x ≤ 255) (hQ : Q (some (.inl 1)) n k h) : ZT n0 g mJ1_canEncode_fc78d 0 (zloc mJ1_canEncode_fc78d [.inl x]) [] n k h Q := by
  show ZT n0 g mJ1_canEncode_fc78d 0 [some (.inl x)] [] n k h Q
  refine T_iload_n dJ1_canEncode_fc78d_0 rfl ?_
  refine T_sipush dJ1_canEncode_fc78d_1 (by decide) ?_
  refine T_icmp_gt dJ1_canEncode_fc78d_4 (t := 11) rfl (fun hc => absurd hc (by omega)) (fun _ => ?_)
  refine T_iconst dJ1_canEncode_fc78d_7 (by decide) ?_
  refine T_goto dJ1_canEncode_fc78d_8 (t := 12) rfl ?_
  refine T_iret dJ1_canEncode_fc78d_12 rfl ?_
  exact hQ
set_option maxHeartbeats 4000000 in
set_option maxRecDepth 100000 in
theorem m_J8_newLength_cabcc {n0 n k : Nat} {g : Nat → zV} {h : zHp} {Q : Option zV → Nat → Nat → zHp → Prop} {x y z : Int} (hx : 0 ≤ x ∧ x ≤ 1000 ∧ 0 < y ∧ y ≤ 1000 ∧ 0 ≤ z ∧ z ≤ 1000) (hQ : Q (some (.inl (max y z + x))) n k h) : ZT n0 g mJ8_newLength_cabcc 0 (zloc mJ8_newLength_cabcc [.inl x, .inl y, .inl z]) [] n k h Q := by
  show ZT n0 g mJ8_newLength_cabcc 0 [some (.inl x), some (.inl y), some (.inl z), none] [] n k h Q
  refine T_iload_n dJ8_newLength_cabcc_0 rfl ?_
  refine T_iload_n dJ8_newLength_cabcc_1 rfl ?_
  refine T_iload_n dJ8_newLength_cabcc_2 rfl ?_
  refine T_callS dJ8_newLength_cabcc_3 zkm_28_194 ⟨Nat.le_of_ble_eq_true rfl, Nat.le_of_ble_eq_true rfl, rfl⟩ rfl (Nat.le_of_ble_eq_true rfl) ?_
  refine m_Jmax   ?_
  have hmx : max y z ≤ 1000 ∧ 0 < max y z := by rw [Int.max_def]; split <;> omega
  refine T_iadd dJ8_newLength_cabcc_6 ⟨by omega, by omega⟩ ?_
  refine T_istore_n dJ8_newLength_cabcc_7 (Nat.le_of_ble_eq_true rfl) ?_
  refine T_iconst dJ8_newLength_cabcc_8 (by decide) ?_
  refine T_iload_n dJ8_newLength_cabcc_9 rfl ?_
  refine T_icmp_ge dJ8_newLength_cabcc_10 (t := 21) rfl (fun hc => absurd hc (by omega)) (fun _ => ?_)
  refine T_iload_n dJ8_newLength_cabcc_13 rfl ?_
  refine T_ldc dJ8_newLength_cabcc_14 zkc_28_200 (by decide) ?_
  refine T_icmp_gt dJ8_newLength_cabcc_16 (t := 21) rfl (fun hc => absurd hc (by omega)) (fun _ => ?_)
  refine T_iload_n dJ8_newLength_cabcc_19 rfl ?_
  refine T_iret dJ8_newLength_cabcc_20 rfl ?_
  exact hQ
set_option maxHeartbeats 4000000 in
set_option maxRecDepth 100000 in
theorem m_Jmin {n0 n k : Nat} {g : Nat → zV} {h : zHp} {Q : Option zV → Nat → Nat → zHp → Prop} {x y : Int}  (hQ : Q (some (.inl (min x y))) n k h) : ZT n0 g mJmin 0 (zloc mJmin [.inl x, .inl y]) [] n k h Q := by
  show ZT n0 g mJmin 0 [some (.inl x), some (.inl y)] [] n k h Q
  refine T_iload_n dJmin_0 rfl ?_
  refine T_iload_n dJmin_1 rfl ?_
  refine T_icmp_gt dJmin_2 (t := 9) rfl (fun c2 => ?_) (fun c2 => ?_)
  · refine T_iload_n dJmin_9 rfl ?_
    refine T_iret dJmin_10 rfl ?_
    rw [Int.min_def] at hQ
    by_cases e : x ≤ y
    · rw [if_pos e] at hQ; exact hQ
    · rw [if_neg e] at hQ
      first | exact hQ | (rw [show x = y by omega]; exact hQ)
  · refine T_iload_n dJmin_5 rfl ?_
    refine T_goto dJmin_6 (t := 10) rfl ?_
    refine T_iret dJmin_10 rfl ?_
    rw [Int.min_def] at hQ
    by_cases e : x ≤ y
    · rw [if_pos e] at hQ
      first | exact hQ | (rw [show y = x by omega]; exact hQ)
    · rw [if_neg e] at hQ; first | exact hQ | omega
set_option maxHeartbeats 4000000 in
set_option maxRecDepth 100000 in
theorem m_J5_newCapacity_0f7a4 {n0 n k : Nat} {g : Nat → zV} {h : zHp} {Q : Option zV → Nat → Nat → zHp → Prop} {a vb N c : Nat} {ml : Int} {by1 : Nat → Int} {w : Nat} (s0 : h a = some (.inl (0, [.inr (some vb), .inl 0, .inl ml, .inl (c : Int)]))) (s1 : h vb = some (.inr (.inl (1, N, by1)))) (hm : N < w ∧ w ≤ 2 * N + 2 ∧ N ≤ 99) (hQ : Q (some (.inl ((2 * N + 2) : Int))) n k h) : ZT n0 g mJ5_newCapacity_0f7a4 0 (zloc mJ5_newCapacity_0f7a4 [.inr (some a), .inl (w : Int)]) [] n k h Q := by
  show ZT n0 g mJ5_newCapacity_0f7a4 0 [some (.inr (some a)), some (.inl (w : Int)), none, none, none, none] [] n k h Q
  refine T_aload_n dJ5_newCapacity_0f7a4_0 rfl ?_
  refine T_getfield dJ5_newCapacity_0f7a4_1 zkf_25_15 s0 rfl ?_
  refine T_arraylength dJ5_newCapacity_0f7a4_4 s1 ?_
  refine T_istore_n dJ5_newCapacity_0f7a4_5 (Nat.le_of_ble_eq_true rfl) ?_
  refine T_iload_n dJ5_newCapacity_0f7a4_6 rfl ?_
  refine T_aload_n dJ5_newCapacity_0f7a4_7 rfl ?_
  refine T_getfield dJ5_newCapacity_0f7a4_8 zkf_25_22 s0 rfl ?_
  refine T_ishl dJ5_newCapacity_0f7a4_11 ?_
      rw [zishl0 ⟨by omega, by omega⟩]
  refine T_istore_n dJ5_newCapacity_0f7a4_12 (Nat.le_of_ble_eq_true rfl) ?_
  refine T_iload_n dJ5_newCapacity_0f7a4_13 rfl ?_
  refine T_iload_n dJ5_newCapacity_0f7a4_14 rfl ?_
  refine T_isub dJ5_newCapacity_0f7a4_15 ⟨by omega, by omega⟩ ?_
  refine T_istore dJ5_newCapacity_0f7a4_16 (Nat.le_of_ble_eq_true rfl) ?_
  refine T_iload_n dJ5_newCapacity_0f7a4_18 rfl ?_
  refine T_iload dJ5_newCapacity_0f7a4_19 rfl ?_
  refine T_iload_n dJ5_newCapacity_0f7a4_21 rfl ?_
  refine T_iconst dJ5_newCapacity_0f7a4_22 (by decide) ?_
  refine T_aload_n dJ5_newCapacity_0f7a4_23 rfl ?_
  refine T_getfield dJ5_newCapacity_0f7a4_24 zkf_25_22 s0 rfl ?_
  refine T_ishl dJ5_newCapacity_0f7a4_27 ?_
      rw [zishl0 ⟨by omega, by omega⟩]
  refine T_iadd dJ5_newCapacity_0f7a4_28 ⟨by omega, by omega⟩ ?_
  refine T_callS dJ5_newCapacity_0f7a4_29 zkm_25_114 ⟨Nat.le_of_ble_eq_true rfl, Nat.le_of_ble_eq_true rfl, rfl⟩ rfl (Nat.le_of_ble_eq_true rfl) ?_
  refine m_J8_newLength_cabcc  (by omega) ?_
  have emx : max ((w : Int) - (N : Int)) ((N : Int) + 2) + (N : Int) = 2 * (N : Int) + 2 := by rw [Int.max_def]; split <;> omega
  refine T_istore dJ5_newCapacity_0f7a4_32 (Nat.le_of_ble_eq_true rfl) ?_
  refine T_iload dJ5_newCapacity_0f7a4_34 rfl ?_
  refine T_ldc dJ5_newCapacity_0f7a4_36 zkc_25_39 (by decide) ?_
  refine T_icmp_ne dJ5_newCapacity_0f7a4_38 (t := 51) rfl (fun _ => ?_) (fun hc => absurd hc (by omega))
  refine T_iload dJ5_newCapacity_0f7a4_51 rfl ?_
  refine T_aload_n dJ5_newCapacity_0f7a4_53 rfl ?_
  refine T_getfield dJ5_newCapacity_0f7a4_54 zkf_25_22 s0 rfl ?_
  refine T_ishr dJ5_newCapacity_0f7a4_57 ?_
      rw [zishr0 ⟨by omega, by omega⟩]
  refine T_iret dJ5_newCapacity_0f7a4_58 rfl ?_
  have e : max ((w : Int) - (N : Int)) ((N : Int) + 2) + (N : Int) = ((2 * N + 2 : Nat) : Int) := by omega
  rw [e]; exact hQ
set_option maxHeartbeats 4000000 in
set_option maxRecDepth 100000 in
theorem m_J7_copyOf_9075b {n0 n k : Nat} {g : Nat → zV} {h : zHp} {Q : Option zV → Nat → Nat → zHp → Prop} {vb N w : Nat} {by1 : Nat → Int} (s1 : h vb = some (.inr (.inl (1, N, by1)))) (hw : n0 ≤ vb ∧ n0 ≤ n) (hm : N < w ∧ w ≤ 300) (hn : vb < n) (hQ : ∀ (by2 : Nat → Int) (h' : zHp), (∀ i, i < N → by2 i = by1 i) → h' n = some (.inr (.inl (1, w, by2))) → (∀ q : Nat, q ≠ n → h' q = h q) → Q (some (.inr (some n))) (n + 1) (k + w) h') : ZT n0 g mJ7_copyOf_9075b 0 (zloc mJ7_copyOf_9075b [.inr (some vb), .inl (w : Int)]) [] n k h Q := by
  show ZT n0 g mJ7_copyOf_9075b 0 [some (.inr (some vb)), some (.inl (w : Int)), none] [] n k h Q
  refine T_iload_n dJ7_copyOf_9075b_0 rfl ?_
  refine T_aload_n dJ7_copyOf_9075b_1 rfl ?_
  refine T_arraylength dJ7_copyOf_9075b_2 s1 ?_
  refine T_icmp_ne dJ7_copyOf_9075b_3 (t := 14) rfl (fun _ => ?_) (fun hc => absurd hc (by omega))
  refine T_iload_n dJ7_copyOf_9075b_14 rfl ?_
  refine T_newarrayN (m := w) dJ7_copyOf_9075b_15 rfl rfl (by omega) ?_
  refine T_astore_n dJ7_copyOf_9075b_17 (Nat.le_of_ble_eq_true rfl) ?_
  refine T_aload_n dJ7_copyOf_9075b_18 rfl ?_
  refine T_iconst dJ7_copyOf_9075b_19 (by decide) ?_
  refine T_aload_n dJ7_copyOf_9075b_20 rfl ?_
  refine T_iconst dJ7_copyOf_9075b_21 (by decide) ?_
  refine T_aload_n dJ7_copyOf_9075b_22 rfl ?_
  refine T_arraylength dJ7_copyOf_9075b_23 (zup_ne (by omega) s1) ?_
  refine T_iload_n dJ7_copyOf_9075b_24 rfl ?_
  refine T_callS dJ7_copyOf_9075b_25 zkm_27_304 ⟨Nat.le_of_ble_eq_true rfl, Nat.le_of_ble_eq_true rfl, rfl⟩ rfl (Nat.le_of_ble_eq_true rfl) ?_
  refine m_Jmin   ?_
  have emn : min (N : Int) (w : Int) = (N : Int) := by rw [Int.min_def, if_pos (by omega)]
  rw [emn]
  refine T_copy dJ7_copyOf_9075b_28 zkm_27_150 (zup_ne (by omega) s1) zup_self ⟨by omega, by omega, by omega, by omega, by omega⟩ ⟨(by omega), (by omega)⟩ ⟨Nat.le_of_ble_eq_true rfl, Nat.le_of_ble_eq_true rfl, Nat.le_of_ble_eq_true rfl⟩ ?_
  refine T_aload_n dJ7_copyOf_9075b_31 rfl ?_
  refine T_aret dJ7_copyOf_9075b_32 rfl ?_
  exact hQ _ _ (fun i hi => by unfold zcp; rw [if_pos ⟨by omega, by omega⟩]; congr 1; omega) zup_self (fun q q0 => ((zup_nf q0).trans ((zup_nf q0).trans rfl)))
set_option maxHeartbeats 4000000 in
set_option maxRecDepth 100000 in
theorem m_J5_ensureCapacityInternal_d00df {n0 n k : Nat} {g : Nat → zV} {h : zHp} {Q : Option zV → Nat → Nat → zHp → Prop} {a vb N c : Nat} {ml : Int} {by1 : Nat → Int} {w : Nat} (s0 : h a = some (.inl (0, [.inr (some vb), .inl 0, .inl ml, .inl (c : Int)]))) (s1 : h vb = some (.inr (.inl (1, N, by1)))) (hw : n0 ≤ a ∧ n0 ≤ vb ∧ n0 ≤ n) (hm : w ≤ 2 * N + 2 ∧ w ≤ 99 ∧ N ≤ 200) (hn : vb < n ∧ a < n) (hS : (w ≤ N) → Q none n k h) (hG : ∀ (by2 : Nat → Int) (h' : zHp), (N < w) → (∀ i, i < N → by2 i = by1 i) → h' a = some (.inl (0, [.inr (some n), .inl 0, .inl ml, .inl (c : Int)])) → h' n = some (.inr (.inl (1, (2 * N + 2), by2))) → (∀ q : Nat, q ≠ a → q ≠ n → h' q = h q) → Q none (n + 1) (k + (2 * N + 2)) h') : ZT n0 g mJ5_ensureCapacityInternal_d00df 0 (zloc mJ5_ensureCapacityInternal_d00df [.inr (some a), .inl (w : Int)]) [] n k h Q := by
  show ZT n0 g mJ5_ensureCapacityInternal_d00df 0 [some (.inr (some a)), some (.inl (w : Int)), none] [] n k h Q
  refine T_aload_n dJ5_ensureCapacityInternal_d00df_0 rfl ?_
  refine T_getfield dJ5_ensureCapacityInternal_d00df_1 zkf_25_15 s0 rfl ?_
  refine T_arraylength dJ5_ensureCapacityInternal_d00df_4 s1 ?_
  refine T_aload_n dJ5_ensureCapacityInternal_d00df_5 rfl ?_
  refine T_getfield dJ5_ensureCapacityInternal_d00df_6 zkf_25_22 s0 rfl ?_
  refine T_ishr dJ5_ensureCapacityInternal_d00df_9 ?_
      rw [zishr0 ⟨by omega, by omega⟩]
  refine T_istore_n dJ5_ensureCapacityInternal_d00df_10 (Nat.le_of_ble_eq_true rfl) ?_
  refine T_iload_n dJ5_ensureCapacityInternal_d00df_11 rfl ?_
  refine T_iload_n dJ5_ensureCapacityInternal_d00df_12 rfl ?_
  refine T_isub dJ5_ensureCapacityInternal_d00df_13 ⟨by omega, by omega⟩ ?_
  refine T_if_le dJ5_ensureCapacityInternal_d00df_14 (t := 38) rfl (fun c14 => ?_) (fun c14 => ?_)
  · refine T_vret dJ5_ensureCapacityInternal_d00df_38 rfl ?_
    exact hS (by omega)
  · refine T_aload_n dJ5_ensureCapacityInternal_d00df_17 rfl ?_
    refine T_aload_n dJ5_ensureCapacityInternal_d00df_18 rfl ?_
    refine T_getfield dJ5_ensureCapacityInternal_d00df_19 zkf_25_15 s0 rfl ?_
    refine T_aload_n dJ5_ensureCapacityInternal_d00df_22 rfl ?_
    refine T_iload_n dJ5_ensureCapacityInternal_d00df_23 rfl ?_
    refine T_callV dJ5_ensureCapacityInternal_d00df_24 zkm_25_104 (Or.inr rfl) rfl s0 ⟨Nat.le_of_ble_eq_true rfl, rfl⟩ rfl (Nat.le_of_ble_eq_true rfl) ?_
    refine m_J5_newCapacity_0f7a4 s0 s1 (by omega) ?_
    refine T_aload_n dJ5_ensureCapacityInternal_d00df_27 rfl ?_
    refine T_getfield dJ5_ensureCapacityInternal_d00df_28 zkf_25_22 s0 rfl ?_
    refine T_ishl dJ5_ensureCapacityInternal_d00df_31 ?_
        rw [zishl0 ⟨by omega, by omega⟩]
    refine T_callS dJ5_ensureCapacityInternal_d00df_32 zkm_25_108 ⟨Nat.le_of_ble_eq_true rfl, Nat.le_of_ble_eq_true rfl, rfl⟩ rfl (Nat.le_of_ble_eq_true rfl) ?_
    refine m_J7_copyOf_9075b (w := (2 * N + 2)) s1 (by omega) (by omega) (by omega) (fun by232 hh32 k32a f32a fr32 => ?_)
    refine T_putfield dJ5_ensureCapacityInternal_d00df_35 zkf_25_15 ((fr32 _ (by omega)).trans s0) (Nat.le_of_ble_eq_true rfl) (by omega) rfl (fun hf => absurd hf (by decide)) rfl ?_
    refine T_vret dJ5_ensureCapacityInternal_d00df_38 rfl ?_
    exact hG _ _ (by omega) k32a zup_self (zup_ne (by omega) f32a) (fun q q0 q1 => ((zup_nf q0).trans ((fr32 _ q1).trans rfl)))
set_option maxHeartbeats 4000000 in
set_option maxRecDepth 100000 in
theorem m_J5_append_3fe6f {n0 n k : Nat} {g : Nat → zV} {h : zHp} {Q : Option zV → Nat → Nat → zHp → Prop} {a vb N : Nat} {O : tT} {x : Int} (hg0 : g 0 = .inl 1) (hsb : sbA h a O vb N) (hw : n0 ≤ a ∧ n0 ≤ vb ∧ n0 ≤ n) (hd : a ≠ vb ∧ a < n ∧ vb < n) (hO : O.1 ≤ 90) (hx : 0 ≤ x ∧ x ≤ 127) (hQ : ∀ (vb' N' n' k' : Nat) (h' : zHp), (N ≤ N' ∧ n ≤ n' ∧ n' ≤ n + (N' - N) ∧ k ≤ k' ∧ k' ≤ k + 3 * (N' - N)) → ((vb' = vb ∧ n' = n) ∨ (n ≤ vb' ∧ vb' < n')) → (sbA h' a (zput O x) vb' N') → (∀ q : Nat, q ≠ a → q ≠ vb → q < n → h' q = h q) → Q (some (.inr (some a))) n' k' h') : ZT n0 g mJ5_append_3fe6f 0 (zloc mJ5_append_3fe6f [.inr (some a), .inl x]) [] n k h Q := by
  show ZT n0 g mJ5_append_3fe6f 0 [some (.inr (some a)), some (.inl x)] [] n k h Q
  obtain ⟨by1, ml, s0, s1, s2, s3, s4⟩ := id hsb
  refine T_aload_n dJ5_append_3fe6f_0 rfl ?_
  refine T_aload_n dJ5_append_3fe6f_1 rfl ?_
  refine T_getfield dJ5_append_3fe6f_2 zkf_25_79 s0 rfl ?_
  refine T_iconst dJ5_append_3fe6f_5 (by decide) ?_
  refine T_iadd dJ5_append_3fe6f_6 ⟨by omega, by omega⟩ ?_
  refine T_callV dJ5_append_3fe6f_7 zkm_25_100 (Or.inr rfl) rfl s0 ⟨Nat.le_of_ble_eq_true rfl, rfl⟩ rfl (Nat.le_of_ble_eq_true rfl) ?_
  refine m_J5_ensureCapacityInternal_d00df (w := (O.1 + 1)) s0 s1 (by omega) (by omega) (by omega) (fun k7a => ?_) (fun by27 hh7 k7a_2 k7b f7a f7b fr7 => ?_)
  · refine T_aload_n dJ5_append_3fe6f_10 rfl ?_
    refine T_callV dJ5_append_3fe6f_11 zkm_25_83 (Or.inr rfl) rfl s0 ⟨Nat.le_of_ble_eq_true rfl, rfl⟩ rfl (Nat.le_of_ble_eq_true rfl) ?_
    refine m_J5_isLatin1_aae02 s0 hg0 ?_
    refine T_if_eq dJ5_append_3fe6f_14 (t := 45) rfl (fun hc => absurd hc (by decide)) (fun _ => ?_)
    refine T_iload_n dJ5_append_3fe6f_17 rfl ?_
    refine T_callS dJ5_append_3fe6f_18 zkm_25_191 ⟨Nat.le_of_ble_eq_true rfl, Nat.le_of_ble_eq_true rfl, rfl⟩ rfl (Nat.le_of_ble_eq_true rfl) ?_
    refine m_J1_canEncode_fc78d  (by omega) ?_
    refine T_if_eq dJ5_append_3fe6f_21 (t := 45) rfl (fun hc => absurd hc (by decide)) (fun _ => ?_)
    refine T_aload_n dJ5_append_3fe6f_24 rfl ?_
    refine T_getfield dJ5_append_3fe6f_25 zkf_25_15 s0 rfl ?_
    refine T_aload_n dJ5_append_3fe6f_28 rfl ?_
    refine T_dup dJ5_append_3fe6f_29 ?_
    refine T_getfield dJ5_append_3fe6f_30 zkf_25_79 s0 rfl ?_
    refine T_dup_x1 dJ5_append_3fe6f_33 ?_
    refine T_iconst dJ5_append_3fe6f_34 (by decide) ?_
    refine T_iadd dJ5_append_3fe6f_35 ⟨by omega, by omega⟩ ?_
    refine T_putfield dJ5_append_3fe6f_36 zkf_25_79 s0 (Nat.le_of_ble_eq_true rfl) (by omega) rfl (fun hf => absurd hf (by decide)) rfl ?_
    refine T_iload_n dJ5_append_3fe6f_39 rfl ?_
    refine T_i2b dJ5_append_3fe6f_40 ⟨by omega, by omega⟩ ?_
    refine T_bastoreN (m := O.1) dJ5_append_3fe6f_41 (zup_ne (by omega) s1) (by decide) (by omega) (by omega) (by omega) (zfitB (by omega)) ?_
    refine T_goto dJ5_append_3fe6f_42 (t := 75) rfl ?_
    refine T_aload_n dJ5_append_3fe6f_75 rfl ?_
    refine T_aret dJ5_append_3fe6f_76 rfl ?_
    exact hQ vb N n k _ ⟨Nat.le_refl _, Nat.le_refl _, by omega, Nat.le_refl _, by omega⟩ (Or.inl ⟨rfl, rfl⟩) ⟨_, ml, (zup_ne (by omega) zup_self), zup_self, by show O.1 + 1 ≤ N; omega, s3, (fun i hi => by
      by_cases e9 : i = O.1
      · rw [e9]; exact zfu_self.trans zfu_self.symm
      · exact (zfu_ne e9).trans ((s4 i (by have : i < O.1 + 1 := hi; omega)).trans (zfu_ne e9).symm))⟩ (fun q a1 a2 a3 => ((zup_nf (by omega)).trans (((zup_nf (by omega)).trans (rfl)))))
  · refine T_aload_n dJ5_append_3fe6f_10 rfl ?_
    refine T_callV dJ5_append_3fe6f_11 zkm_25_83 (Or.inr rfl) rfl f7a ⟨Nat.le_of_ble_eq_true rfl, rfl⟩ rfl (Nat.le_of_ble_eq_true rfl) ?_
    refine m_J5_isLatin1_aae02 f7a hg0 ?_
    refine T_if_eq dJ5_append_3fe6f_14 (t := 45) rfl (fun hc => absurd hc (by decide)) (fun _ => ?_)
    refine T_iload_n dJ5_append_3fe6f_17 rfl ?_
    refine T_callS dJ5_append_3fe6f_18 zkm_25_191 ⟨Nat.le_of_ble_eq_true rfl, Nat.le_of_ble_eq_true rfl, rfl⟩ rfl (Nat.le_of_ble_eq_true rfl) ?_
    refine m_J1_canEncode_fc78d  (by omega) ?_
    refine T_if_eq dJ5_append_3fe6f_21 (t := 45) rfl (fun hc => absurd hc (by decide)) (fun _ => ?_)
    refine T_aload_n dJ5_append_3fe6f_24 rfl ?_
    refine T_getfield dJ5_append_3fe6f_25 zkf_25_15 f7a rfl ?_
    refine T_aload_n dJ5_append_3fe6f_28 rfl ?_
    refine T_dup dJ5_append_3fe6f_29 ?_
    refine T_getfield dJ5_append_3fe6f_30 zkf_25_79 f7a rfl ?_
    refine T_dup_x1 dJ5_append_3fe6f_33 ?_
    refine T_iconst dJ5_append_3fe6f_34 (by decide) ?_
    refine T_iadd dJ5_append_3fe6f_35 ⟨by omega, by omega⟩ ?_
    refine T_putfield dJ5_append_3fe6f_36 zkf_25_79 f7a (Nat.le_of_ble_eq_true rfl) (by omega) rfl (fun hf => absurd hf (by decide)) rfl ?_
    refine T_iload_n dJ5_append_3fe6f_39 rfl ?_
    refine T_i2b dJ5_append_3fe6f_40 ⟨by omega, by omega⟩ ?_
    refine T_bastoreN (m := O.1) dJ5_append_3fe6f_41 (zup_ne (by omega) f7b) (by decide) (by omega) (by omega) (by omega) (zfitB (by omega)) ?_
    refine T_goto dJ5_append_3fe6f_42 (t := 75) rfl ?_
    refine T_aload_n dJ5_append_3fe6f_75 rfl ?_
    refine T_aret dJ5_append_3fe6f_76 rfl ?_
    exact hQ n (2 * N + 2) (n + 1) (k + (2 * N + 2)) _ ⟨by omega, by omega, by omega, by omega, by omega⟩ (Or.inr ⟨Nat.le_refl _, by omega⟩) ⟨_, ml, (zup_ne (by omega) zup_self), zup_self, by show O.1 + 1 ≤ 2 * N + 2; omega, by omega, (fun i hi => by
      by_cases e9 : i = O.1
      · rw [e9]; exact zfu_self.trans zfu_self.symm
      · exact (zfu_ne e9).trans (((fun i hi => (k7b i (by omega)).trans (s4 i hi)) i (by have : i < O.1 + 1 := hi; omega)).trans (zfu_ne e9).symm))⟩ (fun q a1 a2 a3 => ((zup_nf (by omega)).trans (((zup_nf (by omega)).trans (((fr7 _ (by omega) (by omega)).trans (rfl)))))))
set_option maxHeartbeats 4000000 in
set_option maxRecDepth 100000 in
theorem m_J4_append_cf468 {n0 n k : Nat} {g : Nat → zV} {h : zHp} {Q : Option zV → Nat → Nat → zHp → Prop} {a vb N : Nat} {O : tT} {x : Int} (hg0 : g 0 = .inl 1) (hsb : sbA h a O vb N) (hw : n0 ≤ a ∧ n0 ≤ vb ∧ n0 ≤ n) (hd : a ≠ vb ∧ a < n ∧ vb < n) (hO : O.1 ≤ 90) (hx : 0 ≤ x ∧ x ≤ 127) (hQ : ∀ (vb' N' n' k' : Nat) (h' : zHp), (N ≤ N' ∧ n ≤ n' ∧ n' ≤ n + (N' - N) ∧ k ≤ k' ∧ k' ≤ k + 3 * (N' - N)) → ((vb' = vb ∧ n' = n) ∨ (n ≤ vb' ∧ vb' < n')) → (sbA h' a (zput O x) vb' N') → (∀ q : Nat, q ≠ a → q ≠ vb → q < n → h' q = h q) → Q (some (.inr (some a))) n' k' h') : ZT n0 g mJ4_append_cf468 0 (zloc mJ4_append_cf468 [.inr (some a), .inl x]) [] n k h Q := by
  show ZT n0 g mJ4_append_cf468 0 [some (.inr (some a)), some (.inl x)] [] n k h Q
  obtain ⟨by1, ml, s0, s1, s2, s3, s4⟩ := id hsb
  refine T_aload_n dJ4_append_cf468_0 rfl ?_
  refine T_iload_n dJ4_append_cf468_1 rfl ?_
  refine T_callU dJ4_append_cf468_2 zkm_0_50 rfl s0 ⟨Nat.le_of_ble_eq_true rfl, rfl⟩ rfl (Nat.le_of_ble_eq_true rfl) ?_
  refine m_J5_append_3fe6f  (by omega) (by omega) (by omega) (by omega) hO (by omega) (fun vb'2 N'2 n'2 k'2 hh2 k2a k2b sb_2 pf_2 => ?_)
  refine T_pop dJ4_append_cf468_5 ?_
  refine T_aload_n dJ4_append_cf468_6 rfl ?_
  refine T_aret dJ4_append_cf468_7 rfl ?_
  exact hQ vb'2 N'2 n'2 k'2 hh2 k2a k2b sb_2 pf_2
