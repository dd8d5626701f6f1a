/-! ===== StringBuilder: printed by wip/whole/gen/s_sb.py ===== -/
theorem zishr0 {x : Int} (h : zR x) : zbit (fun a b => a >>> (b &&& 31)) x 0 = x := by
  have e : ∀ a : Int32, a >>> (Int32.ofInt 0 &&& 31) = a := fun a => by
    rw [show (Int32.ofInt 0 &&& 31 : Int32) = 0 by decide]
    exact Int32.shiftRight_zero
  show (Int32.ofInt x >>> (Int32.ofInt 0 &&& 31)).toInt = x
  rw [e]; exact zI_toInt h
theorem zishl0 {x : Int} (h : zR x) : zbit (fun a b => a <<< (b &&& 31)) x 0 = x := by
  have e : ∀ a : Int32, a <<< (Int32.ofInt 0 &&& 31) = a := fun a => by
    rw [show (Int32.ofInt 0 &&& 31 : Int32) = 0 by decide]
    exact Int32.shiftLeft_zero
  show (Int32.ofInt x <<< (Int32.ofInt 0 &&& 31)).toInt = x
  rw [e]; exact zI_toInt h
theorem zfitB {x : Int} (h : -128 ≤ x ∧ x ≤ 127) : zfit (zty 1) (.inl x) = true := by
  show decide (-128 ≤ x ∧ x ≤ 127) = true
  exact decide_eq_true h
/-- a StringBuilder of bytes at a, its bytes at vb -/
def sbA (h : zHp) (a : Nat) (O : tT) (vb N : Nat) : Prop := ∃ (by' : Nat → Int) (ml : Int), h a = some (.inl (0, [.inr (some vb), .inl 0, .inl ml, .inl (O.1 : Int)])) ∧ h vb = some (.inr (.inl (1, N, by'))) ∧ O.1 ≤ N ∧ N ≤ 200 ∧ ∀ i, i < O.1 → by' i = O.2 i
theorem zretC {x : Int} (h : 0 ≤ x ∧ x ≤ 65535) : zretok (some .char) (some (.inl x)) = true := by
  show decide (0 ≤ x ∧ x ≤ 65535) = true
  exact decide_eq_true h
/-- the tables of digits -/
def dgOk (g : Nat → zV) (h : zHp) (lo : Nat) : Prop := ∃ (e2 e3 : Nat) (f2 f3 : Nat → Int), g 2 = .inr (some e2) ∧ g 3 = .inr (some e3) ∧ e2 < lo ∧ e3 < lo ∧ h e2 = some (.inr (.inl (1, 100, f2))) ∧ h e3 = some (.inr (.inl (1, 100, f3))) ∧ ∀ i : Nat, i < 100 → f2 i = 48 + (i : Int) % 10 ∧ f3 i = 48 + (i : Int) / 10
theorem zand255 : ∀ x : Nat, x < 256 → zbit (fun a b => a &&& b) (x : Int) 255 = x := by decide +kernel
set_option maxHeartbeats 4000000 in
set_option maxRecDepth 100000 in
theorem m_J5_length_8abf5 {n0 n k : Nat} {g : Nat → zV} {h : zHp} {Q : Option zV → Nat → Nat → zHp → Prop} {a vb c : Nat} {ml : Int} (s0 : h a = some (.inl (0, [.inr (some vb), .inl 0, .inl ml, .inl (c : Int)]))) (hQ : Q (some (.inl (c : Int))) n k h) : ZT n0 g mJ5_length_8abf5 0 (zloc mJ5_length_8abf5 [.inr (some a)]) [] n k h Q := by
  show ZT n0 g mJ5_length_8abf5 0 [some (.inr (some a))] [] n k h Q
  refine T_aload_n dJ5_length_8abf5_0 rfl ?_
  refine T_getfield dJ5_length_8abf5_1 zkf_25_79 s0 rfl ?_
  refine T_iret dJ5_length_8abf5_4 rfl ?_
  exact hQ
set_option maxHeartbeats 4000000 in
set_option maxRecDepth 100000 in
theorem m_J4_length_8abf5 {n0 n k : Nat} {g : Nat → zV} {h : zHp} {Q : Option zV → Nat → Nat → zHp → Prop} {a vb c : Nat} {ml : Int} (s0 : h a = some (.inl (0, [.inr (some vb), .inl 0, .inl ml, .inl (c : Int)]))) (hQ : Q (some (.inl (c : Int))) n k h) : ZT n0 g mJ4_length_8abf5 0 (zloc mJ4_length_8abf5 [.inr (some a)]) [] n k h Q := by
  show ZT n0 g mJ4_length_8abf5 0 [some (.inr (some a))] [] n k h Q
  refine T_aload_n dJ4_length_8abf5_0 rfl ?_
  refine T_callU dJ4_length_8abf5_1 zkm_0_343 rfl s0 ⟨Nat.le_of_ble_eq_true rfl, rfl⟩ rfl (Nat.le_of_ble_eq_true rfl) ?_
  refine m_J5_length_8abf5 s0  ?_
  refine T_iret dJ4_length_8abf5_4 rfl ?_
  exact hQ
set_option maxHeartbeats 4000000 in
set_option maxRecDepth 100000 in
theorem m_J5_isLatin1_aae02 {n0 n k : Nat} {g : Nat → zV} {h : zHp} {Q : Option zV → Nat → Nat → zHp → Prop} {a vb c : Nat} {ml : Int} (s0 : h a = some (.inl (0, [.inr (some vb), .inl 0, .inl ml, .inl (c : Int)]))) (hg0 : g 0 = .inl 1) (hQ : Q (some (.inl 1)) n k h) : ZT n0 g mJ5_isLatin1_aae02 0 (zloc mJ5_isLatin1_aae02 [.inr (some a)]) [] n k h Q := by
  show ZT n0 g mJ5_isLatin1_aae02 0 [some (.inr (some a))] [] n k h Q
  refine T_getstatic dJ5_isLatin1_aae02_0 zks_25_18 ?_
  rw [hg0]
  refine T_if_eq dJ5_isLatin1_aae02_3 (t := 17) rfl (fun hc => absurd hc (by decide)) (fun _ => ?_)
  refine T_aload_n dJ5_isLatin1_aae02_6 rfl ?_
  refine T_getfield dJ5_isLatin1_aae02_7 zkf_25_22 s0 rfl ?_
  refine T_if_ne dJ5_isLatin1_aae02_10 (t := 17) rfl (fun hc => absurd hc (by decide)) (fun _ => ?_)
  refine T_iconst dJ5_isLatin1_aae02_13 (by decide) ?_
  refine T_goto dJ5_isLatin1_aae02_14 (t := 18) rfl ?_
  refine T_iret dJ5_isLatin1_aae02_18 rfl ?_
  exact hQ
set_option maxHeartbeats 4000000 in
set_option maxRecDepth 100000 in
theorem m_J1_canEncode_fc78d {n0 n k : Nat} {g : Nat → zV} {h : zHp} {Q : Option zV → Nat → Nat → zHp → Prop} {x : Int} (hx : 0 ≤ x ∧ x ≤ 255) (hQ : Q (some (.inl 1)) n k h) : ZT n0 g mJ1_canEncode_fc78d 0 (zloc mJ1_canEncode_fc78d [.inl x]) [] n k h Q := by
  show ZT n0 g mJ1_canEncode_fc78d 0 [some (.inl x)] [] n k h Q
  refine T_iload_n dJ1_canEncode_fc78d_0 rfl ?_
  refine T_sipush dJ1_canEncode_fc78d_1 (by decide) ?_
  refine T_icmp_gt dJ1_canEncode_fc78d_4 (t := 11) rfl (fun hc => absurd hc (by omega)) (fun _ => ?_)
  refine T_iconst dJ1_canEncode_fc78d_7 (by decide) ?_
  refine T_goto dJ1_canEncode_fc78d_8 (t := 12) rfl ?_
  refine T_iret dJ1_canEncode_fc78d_12 rfl ?_
  exact hQ
set_option maxHeartbeats 4000000 in
set_option maxRecDepth 100000 in
theorem m_J8_newLength_cabcc {n0 n k : Nat} {g : Nat → zV} {h : zHp} {Q : Option zV → Nat → Nat → zHp → Prop} {x y z : Int} (hx : 0 ≤ x ∧ x ≤ 1000 ∧ 0 < y ∧ y ≤ 1000 ∧ 0 ≤ z ∧ z ≤ 1000) (hQ : Q (some (.inl (x + max y z))) n k h) : ZT n0 g mJ8_newLength_cabcc 0 (zloc mJ8_newLength_cabcc [.inl x, .inl y, .inl z]) [] n k h Q := by
  show ZT n0 g mJ8_newLength_cabcc 0 [some (.inl x), some (.inl y), some (.inl z), none] [] n k h Q
  refine T_iload_n dJ8_newLength_cabcc_0 rfl ?_
  refine T_iload_n dJ8_newLength_cabcc_1 rfl ?_
  refine T_iload_n dJ8_newLength_cabcc_2 rfl ?_
  refine T_callS dJ8_newLength_cabcc_3 zkm_28_194 ⟨Nat.le_of_ble_eq_true rfl, Nat.le_of_ble_eq_true rfl, rfl⟩ rfl (Nat.le_of_ble_eq_true rfl) ?_
  refine m_Jmax   ?_
  have hmx : max y z ≤ 1000 ∧ 0 < max y z := by rw [Int.max_def]; split <;> omega
  refine T_iadd dJ8_newLength_cabcc_6 ⟨by omega, by omega⟩ ?_
  refine T_istore_n dJ8_newLength_cabcc_7 (Nat.le_of_ble_eq_true rfl) ?_
  refine T_iconst dJ8_newLength_cabcc_8 (by decide) ?_
  refine T_iload_n dJ8_newLength_cabcc_9 rfl ?_
  refine T_icmp_ge dJ8_newLength_cabcc_10 (t := 21) rfl (fun hc => absurd hc (by omega)) (fun _ => ?_)
  refine T_iload_n dJ8_newLength_cabcc_13 rfl ?_
  refine T_ldc dJ8_newLength_cabcc_14 zkc_28_200 (by decide) ?_
  refine T_icmp_gt dJ8_newLength_cabcc_16 (t := 21) rfl (fun hc => absurd hc (by omega)) (fun _ => ?_)
  refine T_iload_n dJ8_newLength_cabcc_19 rfl ?_
  refine T_iret dJ8_newLength_cabcc_20 rfl ?_
  exact hQ
set_option maxHeartbeats 4000000 in
set_option maxRecDepth 100000 in
theorem m_Jmin {n0 n k : Nat} {g : Nat → zV} {h : zHp} {Q : Option zV → Nat → Nat → zHp → Prop} {x y : Int}  (hQ : Q (some (.inl (min x y))) n k h) : ZT n0 g mJmin 0 (zloc mJmin [.inl x, .inl y]) [] n k h Q := by
  show ZT n0 g mJmin 0 [some (.inl x), some (.inl y)] [] n k h Q
  refine T_iload_n dJmin_0 rfl ?_
  refine T_iload_n dJmin_1 rfl ?_
  refine T_icmp_gt dJmin_2 (t := 9) rfl (fun c2 => ?_) (fun c2 => ?_)
  · refine T_iload_n dJmin_9 rfl ?_
    refine T_iret dJmin_10 rfl ?_
    rw [Int.min_def] at hQ
    by_cases e : x ≤ y
    · rw [if_pos e] at hQ
      first | exact hQ | (rw [show y = x by omega]; exact hQ)
    · rw [if_neg e] at hQ
      first | exact hQ | omega
  · refine T_iload_n dJmin_5 rfl ?_
    refine T_goto dJmin_6 (t := 10) rfl ?_
    refine T_iret dJmin_10 rfl ?_
    rw [Int.min_def] at hQ
    by_cases e : x ≤ y
    · rw [if_pos e] at hQ
      first | exact hQ | (rw [show y = x by omega]; exact hQ)
    · rw [if_neg e] at hQ
      first | exact hQ | omega
set_option maxHeartbeats 4000000 in
set_option maxRecDepth 100000 in
theorem m_J5_newCapacity_0f7a4 {n0 n k : Nat} {g : Nat → zV} {h : zHp} {Q : Option zV → Nat → Nat → zHp → Prop} {a vb N c : Nat} {ml : Int} {by1 : Nat → Int} {w : Nat} (s0 : h a = some (.inl (0, [.inr (some vb), .inl 0, .inl ml, .inl (c : Int)]))) (s1 : h vb = some (.inr (.inl (1, N, by1)))) (hm : N < w ∧ w ≤ 2 * N + 2 ∧ N ≤ 99) (hQ : Q (some (.inl ((2 * N + 2) : Int))) n k h) : ZT n0 g mJ5_newCapacity_0f7a4 0 (zloc mJ5_newCapacity_0f7a4 [.inr (some a), .inl (w : Int)]) [] n k h Q := by
  show ZT n0 g mJ5_newCapacity_0f7a4 0 [some (.inr (some a)), some (.inl (w : Int)), none, none, none, none] [] n k h Q
  refine T_aload_n dJ5_newCapacity_0f7a4_0 rfl ?_
  refine T_getfield dJ5_newCapacity_0f7a4_1 zkf_25_15 s0 rfl ?_
  refine T_arraylength dJ5_newCapacity_0f7a4_4 s1 ?_
  refine T_istore_n dJ5_newCapacity_0f7a4_5 (Nat.le_of_ble_eq_true rfl) ?_
  refine T_iload_n dJ5_newCapacity_0f7a4_6 rfl ?_
  refine T_aload_n dJ5_newCapacity_0f7a4_7 rfl ?_
  refine T_getfield dJ5_newCapacity_0f7a4_8 zkf_25_22 s0 rfl ?_
  refine T_ishl dJ5_newCapacity_0f7a4_11 ?_; rw [zishl0 ⟨by omega, by omega⟩]
  refine T_istore_n dJ5_newCapacity_0f7a4_12 (Nat.le_of_ble_eq_true rfl) ?_
  refine T_iload_n dJ5_newCapacity_0f7a4_13 rfl ?_
  refine T_iload_n dJ5_newCapacity_0f7a4_14 rfl ?_
  refine T_isub dJ5_newCapacity_0f7a4_15 ⟨by omega, by omega⟩ ?_
  refine T_istore dJ5_newCapacity_0f7a4_16 (Nat.le_of_ble_eq_true rfl) ?_
  refine T_iload_n dJ5_newCapacity_0f7a4_18 rfl ?_
  refine T_iload dJ5_newCapacity_0f7a4_19 rfl ?_
  refine T_iload_n dJ5_newCapacity_0f7a4_21 rfl ?_
  refine T_iconst dJ5_newCapacity_0f7a4_22 (by decide) ?_
  refine T_aload_n dJ5_newCapacity_0f7a4_23 rfl ?_
  refine T_getfield dJ5_newCapacity_0f7a4_24 zkf_25_22 s0 rfl ?_
  refine T_ishl dJ5_newCapacity_0f7a4_27 ?_; rw [zishl0 ⟨by omega, by omega⟩]
  refine T_iadd dJ5_newCapacity_0f7a4_28 ⟨by omega, by omega⟩ ?_
  refine T_callS dJ5_newCapacity_0f7a4_29 zkm_25_114 ⟨Nat.le_of_ble_eq_true rfl, Nat.le_of_ble_eq_true rfl, rfl⟩ rfl (Nat.le_of_ble_eq_true rfl) ?_
  refine m_J8_newLength_cabcc  (by omega) ?_
  have emx : (N : Int) + max ((w : Int) - (N : Int)) ((N : Int) + 2) = 2 * (N : Int) + 2 := by rw [Int.max_def]; split <;> omega
  refine T_istore dJ5_newCapacity_0f7a4_32 (Nat.le_of_ble_eq_true rfl) ?_
  refine T_iload dJ5_newCapacity_0f7a4_34 rfl ?_
  refine T_ldc dJ5_newCapacity_0f7a4_36 zkc_25_39 (by decide) ?_
  refine T_icmp_ne dJ5_newCapacity_0f7a4_38 (t := 51) rfl (fun _ => ?_) (fun hc => absurd hc (by omega))
  refine T_iload dJ5_newCapacity_0f7a4_51 rfl ?_
  refine T_aload_n dJ5_newCapacity_0f7a4_53 rfl ?_
  refine T_getfield dJ5_newCapacity_0f7a4_54 zkf_25_22 s0 rfl ?_
  refine T_ishr dJ5_newCapacity_0f7a4_57 ?_; rw [zishr0 ⟨by omega, by omega⟩]
  refine T_iret dJ5_newCapacity_0f7a4_58 rfl ?_
  have e : (N : Int) + max ((w : Int) - (N : Int)) ((N : Int) + 2) = ((2 * N + 2 : Nat) : Int) := by omega
  rw [e]; exact hQ
set_option maxHeartbeats 4000000 in
set_option maxRecDepth 100000 in
theorem m_J7_copyOf_9075b {n0 n k : Nat} {g : Nat → zV} {h : zHp} {Q : Option zV → Nat → Nat → zHp → Prop} {vb N w : Nat} {by1 : Nat → Int} (s1 : h vb = some (.inr (.inl (1, N, by1)))) (hw : n0 ≤ vb ∧ n0 ≤ n) (hm : N < w ∧ w ≤ 300) (hn : vb < n) (hQ : ∀ (by2 : Nat → Int) (h' : zHp), (∀ i, i < N → by2 i = by1 i) → h' n = some (.inr (.inl (1, w, by2))) → (∀ q : Nat, q ≠ n → h' q = h q) → Q (some (.inr (some n))) (n + 1) (k + w) h') : ZT n0 g mJ7_copyOf_9075b 0 (zloc mJ7_copyOf_9075b [.inr (some vb), .inl (w : Int)]) [] n k h Q := by
  show ZT n0 g mJ7_copyOf_9075b 0 [some (.inr (some vb)), some (.inl (w : Int)), none] [] n k h Q
  refine T_iload_n dJ7_copyOf_9075b_0 rfl ?_
  refine T_aload_n dJ7_copyOf_9075b_1 rfl ?_
  refine T_arraylength dJ7_copyOf_9075b_2 s1 ?_
  refine T_icmp_ne dJ7_copyOf_9075b_3 (t := 14) rfl (fun _ => ?_) (fun hc => absurd hc (by omega))
  refine T_iload_n dJ7_copyOf_9075b_14 rfl ?_
  refine T_newarrayN (m := w) dJ7_copyOf_9075b_15 rfl rfl (by omega) ?_
  refine T_astore_n dJ7_copyOf_9075b_17 (Nat.le_of_ble_eq_true rfl) ?_
  refine T_aload_n dJ7_copyOf_9075b_18 rfl ?_
  refine T_iconst dJ7_copyOf_9075b_19 (by decide) ?_
  refine T_aload_n dJ7_copyOf_9075b_20 rfl ?_
  refine T_iconst dJ7_copyOf_9075b_21 (by decide) ?_
  refine T_aload_n dJ7_copyOf_9075b_22 rfl ?_
  refine T_arraylength dJ7_copyOf_9075b_23 (zup_ne (by omega) s1) ?_
  refine T_iload_n dJ7_copyOf_9075b_24 rfl ?_
  refine T_callS dJ7_copyOf_9075b_25 zkm_27_304 ⟨Nat.le_of_ble_eq_true rfl, Nat.le_of_ble_eq_true rfl, rfl⟩ rfl (Nat.le_of_ble_eq_true rfl) ?_
  refine m_Jmin   ?_
  have emn : min (N : Int) (w : Int) = (N : Int) := by rw [Int.min_def, if_pos (by omega)]
  rw [emn]
  refine T_copy dJ7_copyOf_9075b_28 zkm_27_150 (zup_ne (by omega) s1) zup_self ⟨by omega, by omega, by omega, by omega, by omega⟩ ⟨(by omega), (by omega)⟩ ⟨Nat.le_of_ble_eq_true rfl, Nat.le_of_ble_eq_true rfl, Nat.le_of_ble_eq_true rfl⟩ ?_
  refine T_aload_n dJ7_copyOf_9075b_31 rfl ?_
  refine T_aret dJ7_copyOf_9075b_32 rfl ?_
  exact hQ _ _ (fun i hi => by unfold zcp; rw [if_pos ⟨by omega, by omega⟩]; congr 1; omega) zup_self (fun q q0 => ((zup_nf q0).trans ((zup_nf q0).trans rfl)))
set_option maxHeartbeats 4000000 in
set_option maxRecDepth 100000 in
theorem m_J5_ensureCapacityInternal_d00df {n0 n k : Nat} {g : Nat → zV} {h : zHp} {Q : Option zV → Nat → Nat → zHp → Prop} {a vb N c : Nat} {ml : Int} {by1 : Nat → Int} {w : Nat} (s0 : h a = some (.inl (0, [.inr (some vb), .inl 0, .inl ml, .inl (c : Int)]))) (s1 : h vb = some (.inr (.inl (1, N, by1)))) (hw : n0 ≤ a ∧ n0 ≤ vb ∧ n0 ≤ n) (hm : w ≤ 2 * N + 2 ∧ w ≤ 99 ∧ N ≤ 200) (hn : vb < n ∧ a < n) (hS : (w ≤ N) → Q none n k h) (hG : ∀ (by2 : Nat → Int) (h' : zHp), (N < w) → (∀ i, i < N → by2 i = by1 i) → h' a = some (.inl (0, [.inr (some n), .inl 0, .inl ml, .inl (c : Int)])) → h' n = some (.inr (.inl (1, (2 * N + 2), by2))) → (∀ q : Nat, q ≠ a → q ≠ n → h' q = h q) → Q none (n + 1) (k + (2 * N + 2)) h') : ZT n0 g mJ5_ensureCapacityInternal_d00df 0 (zloc mJ5_ensureCapacityInternal_d00df [.inr (some a), .inl (w : Int)]) [] n k h Q := by
  show ZT n0 g mJ5_ensureCapacityInternal_d00df 0 [some (.inr (some a)), some (.inl (w : Int)), none] [] n k h Q
  refine T_aload_n dJ5_ensureCapacityInternal_d00df_0 rfl ?_
  refine T_getfield dJ5_ensureCapacityInternal_d00df_1 zkf_25_15 s0 rfl ?_
  refine T_arraylength dJ5_ensureCapacityInternal_d00df_4 s1 ?_
  refine T_aload_n dJ5_ensureCapacityInternal_d00df_5 rfl ?_
  refine T_getfield dJ5_ensureCapacityInternal_d00df_6 zkf_25_22 s0 rfl ?_
  refine T_ishr dJ5_ensureCapacityInternal_d00df_9 ?_; rw [zishr0 ⟨by omega, by omega⟩]
  refine T_istore_n dJ5_ensureCapacityInternal_d00df_10 (Nat.le_of_ble_eq_true rfl) ?_
  refine T_iload_n dJ5_ensureCapacityInternal_d00df_11 rfl ?_
  refine T_iload_n dJ5_ensureCapacityInternal_d00df_12 rfl ?_
  refine T_isub dJ5_ensureCapacityInternal_d00df_13 ⟨by omega, by omega⟩ ?_
  refine T_if_le dJ5_ensureCapacityInternal_d00df_14 (t := 38) rfl (fun c14 => ?_) (fun c14 => ?_)
  · refine T_vret dJ5_ensureCapacityInternal_d00df_38 rfl ?_
    exact hS (by omega)
  · refine T_aload_n dJ5_ensureCapacityInternal_d00df_17 rfl ?_
    refine T_aload_n dJ5_ensureCapacityInternal_d00df_18 rfl ?_
    refine T_getfield dJ5_ensureCapacityInternal_d00df_19 zkf_25_15 s0 rfl ?_
    refine T_aload_n dJ5_ensureCapacityInternal_d00df_22 rfl ?_
    refine T_iload_n dJ5_ensureCapacityInternal_d00df_23 rfl ?_
    refine T_callV dJ5_ensureCapacityInternal_d00df_24 zkm_25_104 (Or.inr rfl) rfl s0 ⟨Nat.le_of_ble_eq_true rfl, rfl⟩ rfl (Nat.le_of_ble_eq_true rfl) ?_
    refine m_J5_newCapacity_0f7a4 s0 s1 (by omega) ?_
    refine T_aload_n dJ5_ensureCapacityInternal_d00df_27 rfl ?_
    refine T_getfield dJ5_ensureCapacityInternal_d00df_28 zkf_25_22 s0 rfl ?_
    refine T_ishl dJ5_ensureCapacityInternal_d00df_31 ?_; rw [zishl0 ⟨by omega, by omega⟩]
    refine T_callS dJ5_ensureCapacityInternal_d00df_32 zkm_25_108 ⟨Nat.le_of_ble_eq_true rfl, Nat.le_of_ble_eq_true rfl, rfl⟩ rfl (Nat.le_of_ble_eq_true rfl) ?_
    refine m_J7_copyOf_9075b (w := (2 * N + 2)) s1 (by omega) (by omega) (by omega) (fun by232 hh32 k32a f32a fr32 => ?_)
    refine T_putfield dJ5_ensureCapacityInternal_d00df_35 zkf_25_15 ((fr32 _ (by omega)).trans s0) (Nat.le_of_ble_eq_true rfl) (by omega) rfl (fun hf => absurd hf (by decide)) rfl ?_
    refine T_vret dJ5_ensureCapacityInternal_d00df_38 rfl ?_
    exact hG _ _ (by omega) k32a zup_self (zup_ne (by omega) f32a) (fun q q0 q1 => ((zup_nf q0).trans ((fr32 _ q1).trans rfl)))
set_option maxHeartbeats 4000000 in
set_option maxRecDepth 100000 in
theorem m_J5_append_3fe6f {n0 n k : Nat} {g : Nat → zV} {h : zHp} {Q : Option zV → Nat → Nat → zHp → Prop} {a vb N : Nat} {O : tT} {x : Int} (hg0 : g 0 = .inl 1) (hsb : sbA h a O vb N) (hw : n0 ≤ a ∧ n0 ≤ vb ∧ n0 ≤ n) (hd : a ≠ vb ∧ a < n ∧ vb < n) (hO : O.1 ≤ 90) (hx : 0 ≤ x ∧ x ≤ 127) (hQ : ∀ (vb' N' n' k' : Nat) (h' : zHp), (N ≤ N' ∧ n ≤ n' ∧ n' ≤ n + (N' - N) ∧ k ≤ k' ∧ k' ≤ k + 3 * (N' - N)) → ((vb' = vb ∧ n' = n) ∨ (n ≤ vb' ∧ vb' < n')) → (sbA h' a (zput O x) vb' N') → (∀ q : Nat, q ≠ a → q ≠ vb → q < n → h' q = h q) → Q (some (.inr (some a))) n' k' h') : ZT n0 g mJ5_append_3fe6f 0 (zloc mJ5_append_3fe6f [.inr (some a), .inl x]) [] n k h Q := by
  show ZT n0 g mJ5_append_3fe6f 0 [some (.inr (some a)), some (.inl x)] [] n k h Q
  obtain ⟨by1, ml, s0, s1, s2, s3, s4⟩ := id hsb
  refine T_aload_n dJ5_append_3fe6f_0 rfl ?_
  refine T_aload_n dJ5_append_3fe6f_1 rfl ?_
  refine T_getfield dJ5_append_3fe6f_2 zkf_25_79 s0 rfl ?_
  refine T_iconst dJ5_append_3fe6f_5 (by decide) ?_
  refine T_iadd dJ5_append_3fe6f_6 ⟨by omega, by omega⟩ ?_
  refine T_callV dJ5_append_3fe6f_7 zkm_25_100 (Or.inr rfl) rfl s0 ⟨Nat.le_of_ble_eq_true rfl, rfl⟩ rfl (Nat.le_of_ble_eq_true rfl) ?_
  refine m_J5_ensureCapacityInternal_d00df (w := (O.1 + 1)) s0 s1 (by omega) (by omega) (by omega) (fun k7a => ?_) (fun by27 hh7 k7a_2 k7b f7a f7b fr7 => ?_)
  · refine T_aload_n dJ5_append_3fe6f_10 rfl ?_
    refine T_callV dJ5_append_3fe6f_11 zkm_25_83 (Or.inr rfl) rfl s0 ⟨Nat.le_of_ble_eq_true rfl, rfl⟩ rfl (Nat.le_of_ble_eq_true rfl) ?_
    refine m_J5_isLatin1_aae02 s0 hg0 ?_
    refine T_if_eq dJ5_append_3fe6f_14 (t := 45) rfl (fun hc => absurd hc (by decide)) (fun _ => ?_)
    refine T_iload_n dJ5_append_3fe6f_17 rfl ?_
    refine T_callS dJ5_append_3fe6f_18 zkm_25_191 ⟨Nat.le_of_ble_eq_true rfl, Nat.le_of_ble_eq_true rfl, rfl⟩ rfl (Nat.le_of_ble_eq_true rfl) ?_
    refine m_J1_canEncode_fc78d  (by omega) ?_
    refine T_if_eq dJ5_append_3fe6f_21 (t := 45) rfl (fun hc => absurd hc (by decide)) (fun _ => ?_)
    refine T_aload_n dJ5_append_3fe6f_24 rfl ?_
    refine T_getfield dJ5_append_3fe6f_25 zkf_25_15 s0 rfl ?_
    refine T_aload_n dJ5_append_3fe6f_28 rfl ?_
    refine T_dup dJ5_append_3fe6f_29 ?_
    refine T_getfield dJ5_append_3fe6f_30 zkf_25_79 s0 rfl ?_
    refine T_dup_x1 dJ5_append_3fe6f_33 ?_
    refine T_iconst dJ5_append_3fe6f_34 (by decide) ?_
    refine T_iadd dJ5_append_3fe6f_35 ⟨by omega, by omega⟩ ?_
    refine T_putfield dJ5_append_3fe6f_36 zkf_25_79 s0 (Nat.le_of_ble_eq_true rfl) (by omega) rfl (fun hf => absurd hf (by decide)) rfl ?_
    refine T_iload_n dJ5_append_3fe6f_39 rfl ?_
    refine T_i2b dJ5_append_3fe6f_40 ⟨by omega, by omega⟩ ?_
    refine T_bastoreN (m := O.1) dJ5_append_3fe6f_41 (zup_ne (by omega) s1) (by decide) (by omega) (by omega) (by omega) (zfitB (by omega)) ?_
    refine T_goto dJ5_append_3fe6f_42 (t := 75) rfl ?_
    refine T_aload_n dJ5_append_3fe6f_75 rfl ?_
    refine T_aret dJ5_append_3fe6f_76 rfl ?_
    exact hQ vb N n k _ ⟨Nat.le_refl _, Nat.le_refl _, by omega, Nat.le_refl _, by omega⟩ (Or.inl ⟨rfl, rfl⟩) ⟨_, ml, (zup_ne (by omega) zup_self), zup_self, by show O.1 + 1 ≤ N; omega, s3, (fun i hi => by
      by_cases e9 : i = O.1
      · rw [e9]; exact zfu_self.trans zfu_self.symm
      · exact (zfu_ne e9).trans ((s4 i (by have : i < O.1 + 1 := hi; omega)).trans (zfu_ne e9).symm))⟩ (fun q a1 a2 a3 => ((zup_nf (by omega)).trans (((zup_nf (by omega)).trans (rfl)))))
  · refine T_aload_n dJ5_append_3fe6f_10 rfl ?_
    refine T_callV dJ5_append_3fe6f_11 zkm_25_83 (Or.inr rfl) rfl f7a ⟨Nat.le_of_ble_eq_true rfl, rfl⟩ rfl (Nat.le_of_ble_eq_true rfl) ?_
    refine m_J5_isLatin1_aae02 f7a hg0 ?_
    refine T_if_eq dJ5_append_3fe6f_14 (t := 45) rfl (fun hc => absurd hc (by decide)) (fun _ => ?_)
    refine T_iload_n dJ5_append_3fe6f_17 rfl ?_
    refine T_callS dJ5_append_3fe6f_18 zkm_25_191 ⟨Nat.le_of_ble_eq_true rfl, Nat.le_of_ble_eq_true rfl, rfl⟩ rfl (Nat.le_of_ble_eq_true rfl) ?_
    refine m_J1_canEncode_fc78d  (by omega) ?_
    refine T_if_eq dJ5_append_3fe6f_21 (t := 45) rfl (fun hc => absurd hc (by decide)) (fun _ => ?_)
    refine T_aload_n dJ5_append_3fe6f_24 rfl ?_
    refine T_getfield dJ5_append_3fe6f_25 zkf_25_15 f7a rfl ?_
    refine T_aload_n dJ5_append_3fe6f_28 rfl ?_
    refine T_dup dJ5_append_3fe6f_29 ?_
    refine T_getfield dJ5_append_3fe6f_30 zkf_25_79 f7a rfl ?_
    refine T_dup_x1 dJ5_append_3fe6f_33 ?_
    refine T_iconst dJ5_append_3fe6f_34 (by decide) ?_
    refine T_iadd dJ5_append_3fe6f_35 ⟨by omega, by omega⟩ ?_
    refine T_putfield dJ5_append_3fe6f_36 zkf_25_79 f7a (Nat.le_of_ble_eq_true rfl) (by omega) rfl (fun hf => absurd hf (by decide)) rfl ?_
    refine T_iload_n dJ5_append_3fe6f_39 rfl ?_
    refine T_i2b dJ5_append_3fe6f_40 ⟨by omega, by omega⟩ ?_
    refine T_bastoreN (m := O.1) dJ5_append_3fe6f_41 (zup_ne (by omega) f7b) (by decide) (by omega) (by omega) (by omega) (zfitB (by omega)) ?_
    refine T_goto dJ5_append_3fe6f_42 (t := 75) rfl ?_
    refine T_aload_n dJ5_append_3fe6f_75 rfl ?_
    refine T_aret dJ5_append_3fe6f_76 rfl ?_
    exact hQ n (2 * N + 2) (n + 1) (k + (2 * N + 2)) _ ⟨by omega, by omega, by omega, by omega, by omega⟩ (Or.inr ⟨Nat.le_refl _, by omega⟩) ⟨_, ml, (zup_ne (by omega) zup_self), zup_self, by show O.1 + 1 ≤ 2 * N + 2; omega, by omega, (fun i hi => by
      by_cases e9 : i = O.1
      · rw [e9]; exact zfu_self.trans zfu_self.symm
      · exact (zfu_ne e9).trans (((fun i hi => (k7b i (by omega)).trans (s4 i hi)) i (by have : i < O.1 + 1 := hi; omega)).trans (zfu_ne e9).symm))⟩ (fun q a1 a2 a3 => ((zup_nf (by omega)).trans (((zup_nf (by omega)).trans (((fr7 _ (by omega) (by omega)).trans (rfl)))))))
set_option maxHeartbeats 4000000 in
set_option maxRecDepth 100000 in
theorem m_J4_append_cf468 {n0 n k : Nat} {g : Nat → zV} {h : zHp} {Q : Option zV → Nat → Nat → zHp → Prop} {a vb N : Nat} {O : tT} {x : Int} (hg0 : g 0 = .inl 1) (hsb : sbA h a O vb N) (hw : n0 ≤ a ∧ n0 ≤ vb ∧ n0 ≤ n) (hd : a ≠ vb ∧ a < n ∧ vb < n) (hO : O.1 ≤ 90) (hx : 0 ≤ x ∧ x ≤ 127) (hQ : ∀ (vb' N' n' k' : Nat) (h' : zHp), (N ≤ N' ∧ n ≤ n' ∧ n' ≤ n + (N' - N) ∧ k ≤ k' ∧ k' ≤ k + 3 * (N' - N)) → ((vb' = vb ∧ n' = n) ∨ (n ≤ vb' ∧ vb' < n')) → (sbA h' a (zput O x) vb' N') → (∀ q : Nat, q ≠ a → q ≠ vb → q < n → h' q = h q) → Q (some (.inr (some a))) n' k' h') : ZT n0 g mJ4_append_cf468 0 (zloc mJ4_append_cf468 [.inr (some a), .inl x]) [] n k h Q := by
  show ZT n0 g mJ4_append_cf468 0 [some (.inr (some a)), some (.inl x)] [] n k h Q
  obtain ⟨by1, ml, s0, s1, s2, s3, s4⟩ := id hsb
  refine T_aload_n dJ4_append_cf468_0 rfl ?_
  refine T_iload_n dJ4_append_cf468_1 rfl ?_
  refine T_callU dJ4_append_cf468_2 zkm_0_50 rfl s0 ⟨Nat.le_of_ble_eq_true rfl, rfl⟩ rfl (Nat.le_of_ble_eq_true rfl) ?_
  refine m_J5_append_3fe6f  (by omega) (by omega) (by omega) (by omega) hO (by omega) (fun vb'2 N'2 n'2 k'2 hh2 k2a k2b sb_2 pf_2 => ?_)
  refine T_pop dJ4_append_cf468_5 ?_
  refine T_aload_n dJ4_append_cf468_6 rfl ?_
  refine T_aret dJ4_append_cf468_7 rfl ?_
  exact hQ vb'2 N'2 n'2 k'2 hh2 k2a k2b sb_2 pf_2
set_option maxHeartbeats 4000000 in
set_option maxRecDepth 100000 in
theorem m_J6_stringSize_0f7a4 {n0 n k : Nat} {g : Nat → zV} {h : zHp} {Q : Option zV → Nat → Nat → zHp → Prop} {x : Nat} (hx : x ≤ 99) (hA : (x ≤ 9) → Q (some (.inl 1)) n k h) (hB : (9 < x) → Q (some (.inl 2)) n k h) : ZT n0 g mJ6_stringSize_0f7a4 0 (zloc mJ6_stringSize_0f7a4 [.inl (x : Int)]) [] n k h Q := by
  show ZT n0 g mJ6_stringSize_0f7a4 0 [some (.inl (x : Int)), none, none, none] [] n k h Q
  refine T_iconst dJ6_stringSize_0f7a4_0 (by decide) ?_
  refine T_istore_n dJ6_stringSize_0f7a4_1 (Nat.le_of_ble_eq_true rfl) ?_
  refine T_iload_n dJ6_stringSize_0f7a4_2 rfl ?_
  refine T_if_lt dJ6_stringSize_0f7a4_3 (t := 11) rfl (fun hc => absurd hc (by omega)) (fun _ => ?_)
  refine T_iconst dJ6_stringSize_0f7a4_6 (by decide) ?_
  refine T_istore_n dJ6_stringSize_0f7a4_7 (Nat.le_of_ble_eq_true rfl) ?_
  refine T_iload_n dJ6_stringSize_0f7a4_8 rfl ?_
  refine T_ineg dJ6_stringSize_0f7a4_9 ⟨by omega, by omega⟩ ?_
  refine T_istore_n dJ6_stringSize_0f7a4_10 (Nat.le_of_ble_eq_true rfl) ?_
  refine T_bipush dJ6_stringSize_0f7a4_11 (by decide) ?_
  refine T_istore_n dJ6_stringSize_0f7a4_13 (Nat.le_of_ble_eq_true rfl) ?_
  refine T_iconst dJ6_stringSize_0f7a4_14 (by decide) ?_
  refine T_istore_n dJ6_stringSize_0f7a4_15 (Nat.le_of_ble_eq_true rfl) ?_
  refine T_iload_n dJ6_stringSize_0f7a4_16 rfl ?_
  refine T_bipush dJ6_stringSize_0f7a4_17 (by decide) ?_
  refine T_icmp_ge dJ6_stringSize_0f7a4_19 (t := 42) rfl (fun hc => absurd hc (by decide)) (fun _ => ?_)
  refine T_iload_n dJ6_stringSize_0f7a4_22 rfl ?_
  refine T_iload_n dJ6_stringSize_0f7a4_23 rfl ?_
  refine T_icmp_le dJ6_stringSize_0f7a4_24 (t := 31) rfl (fun c24 => ?_) (fun c24 => ?_)
  · refine T_bipush dJ6_stringSize_0f7a4_31 (by decide) ?_
    refine T_iload_n dJ6_stringSize_0f7a4_33 rfl ?_
    refine T_imul dJ6_stringSize_0f7a4_34 ⟨by omega, by omega⟩ ?_
    refine T_istore_n dJ6_stringSize_0f7a4_35 (Nat.le_of_ble_eq_true rfl) ?_
    refine T_iinc dJ6_stringSize_0f7a4_36 rfl ⟨by omega, by omega⟩ ?_
    refine T_goto dJ6_stringSize_0f7a4_39 (t := 16) rfl ?_
    refine T_iload_n dJ6_stringSize_0f7a4_16 rfl ?_
    refine T_bipush dJ6_stringSize_0f7a4_17 (by decide) ?_
    refine T_icmp_ge dJ6_stringSize_0f7a4_19 (t := 42) rfl (fun hc => absurd hc (by decide)) (fun _ => ?_)
    refine T_iload_n dJ6_stringSize_0f7a4_22 rfl ?_
    refine T_iload_n dJ6_stringSize_0f7a4_23 rfl ?_
    refine T_icmp_le dJ6_stringSize_0f7a4_24 (t := 31) rfl (fun hc => absurd hc (by omega)) (fun _ => ?_)
    refine T_iload_n dJ6_stringSize_0f7a4_27 rfl ?_
    refine T_iload_n dJ6_stringSize_0f7a4_28 rfl ?_
    refine T_iadd dJ6_stringSize_0f7a4_29 ⟨by omega, by omega⟩ ?_
    refine T_iret dJ6_stringSize_0f7a4_30 rfl ?_
    have e9 : 9 < x := by omega
    exact hB e9
  · refine T_iload_n dJ6_stringSize_0f7a4_27 rfl ?_
    refine T_iload_n dJ6_stringSize_0f7a4_28 rfl ?_
    refine T_iadd dJ6_stringSize_0f7a4_29 ⟨by omega, by omega⟩ ?_
    refine T_iret dJ6_stringSize_0f7a4_30 rfl ?_
    have e9 : x ≤ 9 := by omega
    exact hA e9
set_option maxHeartbeats 4000000 in
set_option maxRecDepth 100000 in
theorem m_J6_getChars_ba4f3 {n0 n k : Nat} {g : Nat → zV} {h : zHp} {Q : Option zV → Nat → Nat → zHp → Prop} {vb N x w : Nat} {by1 : Nat → Int} {e2 e3 : Nat} {f2 f3 : Nat → Int} (s1 : h vb = some (.inr (.inl (1, N, by1)))) (d2 : h e2 = some (.inr (.inl (1, 100, f2)))) (d3 : h e3 = some (.inr (.inl (1, 100, f3)))) (hg2 : g 2 = .inr (some e2)) (hg3 : g 3 = .inr (some e3)) (hdv : ∀ i : Nat, i < 100 → f2 i = 48 + (i : Int) % 10 ∧ f3 i = 48 + (i : Int) / 10) (hx : x ≤ 99) (hw : n0 ≤ vb) (hm : 1 ≤ w ∧ w ≤ N ∧ (9 < x → 2 ≤ w) ∧ N ≤ 200) (hd : vb ≠ e2 ∧ vb ≠ e3) (hQ : ∀ (r9 : Int) (by3 : Nat → Int) (h' : zHp), (x ≤ 9 → by3 = zfu by1 (w - 1) (48 + (x : Int) % 10)) → (9 < x → by3 = zfu (zfu by1 (w - 1) (48 + (x : Int) % 10)) (w - 2) (48 + (x : Int) / 10)) → h' vb = some (.inr (.inl (1, N, by3))) → (∀ q : Nat, q ≠ vb → h' q = h q) → Q (some (.inl r9)) n k h') : ZT n0 g mJ6_getChars_ba4f3 0 (zloc mJ6_getChars_ba4f3 [.inl (x : Int), .inl (w : Int), .inr (some vb)]) [] n k h Q := by
  show ZT n0 g mJ6_getChars_ba4f3 0 [some (.inl (x : Int)), some (.inl (w : Int)), some (.inr (some vb)), none, none, none, none] [] n k h Q
  refine T_iload_n dJ6_getChars_ba4f3_0 rfl ?_
  refine T_istore dJ6_getChars_ba4f3_1 (Nat.le_of_ble_eq_true rfl) ?_
  refine T_iload_n dJ6_getChars_ba4f3_3 rfl ?_
  refine T_if_ge dJ6_getChars_ba4f3_4 (t := 11) rfl (fun _ => ?_) (fun hc => absurd hc (by omega))
  refine T_iconst dJ6_getChars_ba4f3_11 (by decide) ?_
  refine T_istore dJ6_getChars_ba4f3_12 (Nat.le_of_ble_eq_true rfl) ?_
  refine T_iload dJ6_getChars_ba4f3_14 rfl ?_
  refine T_if_ne dJ6_getChars_ba4f3_16 (t := 22) rfl (fun hc => absurd hc (by decide)) (fun _ => ?_)
  refine T_iload_n dJ6_getChars_ba4f3_19 rfl ?_
  refine T_ineg dJ6_getChars_ba4f3_20 ⟨by omega, by omega⟩ ?_
  refine T_istore_n dJ6_getChars_ba4f3_21 (Nat.le_of_ble_eq_true rfl) ?_
  refine T_iload_n dJ6_getChars_ba4f3_22 rfl ?_
  refine T_bipush dJ6_getChars_ba4f3_23 (by decide) ?_
  refine T_icmp_gt dJ6_getChars_ba4f3_25 (t := 72) rfl (fun _ => ?_) (fun hc => absurd hc (by omega))
  refine T_aload_n dJ6_getChars_ba4f3_72 rfl ?_
  refine T_iinc dJ6_getChars_ba4f3_73 rfl ⟨by omega, by omega⟩ ?_
  refine T_iload dJ6_getChars_ba4f3_76 rfl ?_
  refine T_getstatic dJ6_getChars_ba4f3_78 zks_26_83 ?_
  rw [hg2]
  refine T_iload_n dJ6_getChars_ba4f3_81 rfl ?_
  refine T_ineg dJ6_getChars_ba4f3_82 ⟨by omega, by omega⟩ ?_
  refine T_baloadN (m := x) dJ6_getChars_ba4f3_83 d2 (by decide) (by omega) (by omega) ?_
  rw [(hdv x (by omega)).1]
  refine T_bastoreN (m := (w - 1)) dJ6_getChars_ba4f3_84 s1 (by decide) (by omega) (by omega) (by omega) (zfitB (by omega)) ?_
  refine T_iload_n dJ6_getChars_ba4f3_85 rfl ?_
  refine T_bipush dJ6_getChars_ba4f3_86 (by decide) ?_
  refine T_icmp_ge dJ6_getChars_ba4f3_88 (t := 104) rfl (fun c88 => ?_) (fun c88 => ?_)
  · refine T_iload dJ6_getChars_ba4f3_104 rfl ?_
    refine T_if_eq dJ6_getChars_ba4f3_106 (t := 118) rfl (fun _ => ?_) (fun hc => absurd hc (by decide))
    refine T_iload dJ6_getChars_ba4f3_118 rfl ?_
    refine T_iret dJ6_getChars_ba4f3_120 rfl ?_
    have e9 : x ≤ 9 := by omega
    exact hQ _ _ _ (fun _ => rfl) (fun q => absurd e9 (by omega)) zup_self (fun q q1 => ((zup_nf (by omega)).trans (rfl)))
  · refine T_aload_n dJ6_getChars_ba4f3_91 rfl ?_
    refine T_iinc dJ6_getChars_ba4f3_92 rfl ⟨by omega, by omega⟩ ?_
    refine T_iload dJ6_getChars_ba4f3_95 rfl ?_
    refine T_getstatic dJ6_getChars_ba4f3_97 zks_26_87 ?_
    rw [hg3]
    refine T_iload_n dJ6_getChars_ba4f3_100 rfl ?_
    refine T_ineg dJ6_getChars_ba4f3_101 ⟨by omega, by omega⟩ ?_
    refine T_baloadN (m := x) dJ6_getChars_ba4f3_102 (zup_ne (by omega) d3) (by decide) (by omega) (by omega) ?_
    rw [(hdv x (by omega)).2]
    refine T_bastoreN (m := (w - 2)) dJ6_getChars_ba4f3_103 zup_self (by decide) (by omega) (by omega) (by omega) (zfitB (by omega)) ?_
    refine T_iload dJ6_getChars_ba4f3_104 rfl ?_
    refine T_if_eq dJ6_getChars_ba4f3_106 (t := 118) rfl (fun _ => ?_) (fun hc => absurd hc (by decide))
    refine T_iload dJ6_getChars_ba4f3_118 rfl ?_
    refine T_iret dJ6_getChars_ba4f3_120 rfl ?_
    have e9 : 9 < x := by omega
    exact hQ _ _ _ (fun q => absurd e9 (by omega)) (fun _ => rfl) zup_self (fun q q1 => ((zup_nf (by omega)).trans (((zup_nf (by omega)).trans (rfl)))))
set_option maxHeartbeats 4000000 in
set_option maxRecDepth 100000 in
theorem m_J5_append_c97b9 {n0 n k : Nat} {g : Nat → zV} {h : zHp} {Q : Option zV → Nat → Nat → zHp → Prop} {a vb N : Nat} {O : tT} {lo0 x : Nat} (hg0 : g 0 = .inl 1) (hsb : sbA h a O vb N) (hw : n0 ≤ a ∧ n0 ≤ vb ∧ n0 ≤ n) (hd : a ≠ vb ∧ a < n ∧ vb < n) (hdg : dgOk g h lo0) (hlo0 : lo0 ≤ a ∧ lo0 ≤ vb ∧ lo0 ≤ n) (hO : O.1 ≤ 90) (hx : x ≤ 99) (hQ : ∀ (vb' N' n' k' : Nat) (h' : zHp), (N ≤ N' ∧ n ≤ n' ∧ n' ≤ n + (N' - N) ∧ k ≤ k' ∧ k' ≤ k + 3 * (N' - N)) → ((vb' = vb ∧ n' = n) ∨ (n ≤ vb' ∧ vb' < n')) → (sbA h' a (zdig O (x : Int)) vb' N') → (∀ q : Nat, q ≠ a → q ≠ vb → q < n → h' q = h q) → Q (some (.inr (some a))) n' k' h') : ZT n0 g mJ5_append_c97b9 0 (zloc mJ5_append_c97b9 [.inr (some a), .inl (x : Int)]) [] n k h Q := by
  show ZT n0 g mJ5_append_c97b9 0 [some (.inr (some a)), some (.inl (x : Int)), none, none] [] n k h Q
  obtain ⟨by1, ml, s0, s1, s2, s3, s4⟩ := id hsb
  obtain ⟨e2, e3, f2, f3, hg2, hg3, hl2, hl3, d2, d3, hdv⟩ := id hdg
  refine T_aload_n dJ5_append_c97b9_0 rfl ?_
  refine T_getfield dJ5_append_c97b9_1 zkf_25_79 s0 rfl ?_
  refine T_istore_n dJ5_append_c97b9_4 (Nat.le_of_ble_eq_true rfl) ?_
  refine T_iload_n dJ5_append_c97b9_5 rfl ?_
  refine T_iload_n dJ5_append_c97b9_6 rfl ?_
  refine T_callS dJ5_append_c97b9_7 zkm_25_245 ⟨Nat.le_of_ble_eq_true rfl, Nat.le_of_ble_eq_true rfl, rfl⟩ rfl (Nat.le_of_ble_eq_true rfl) ?_
  refine m_J6_stringSize_0f7a4  (by omega) (fun k7a => ?_) (fun k7a_2 => ?_)
  · refine T_iadd dJ5_append_c97b9_10 ⟨by omega, by omega⟩ ?_
    refine T_istore_n dJ5_append_c97b9_11 (Nat.le_of_ble_eq_true rfl) ?_
    refine T_aload_n dJ5_append_c97b9_12 rfl ?_
    refine T_iload_n dJ5_append_c97b9_13 rfl ?_
    refine T_callV dJ5_append_c97b9_14 zkm_25_100 (Or.inr rfl) rfl s0 ⟨Nat.le_of_ble_eq_true rfl, rfl⟩ rfl (Nat.le_of_ble_eq_true rfl) ?_
    refine m_J5_ensureCapacityInternal_d00df (w := (O.1 + 1)) s0 s1 (by omega) (by omega) (by omega) (fun k14a => ?_) (fun by214 hh14 k14a_2 k14b f14a f14b fr14 => ?_)
    · refine T_aload_n dJ5_append_c97b9_17 rfl ?_
      refine T_callV dJ5_append_c97b9_18 zkm_25_83 (Or.inr rfl) rfl s0 ⟨Nat.le_of_ble_eq_true rfl, rfl⟩ rfl (Nat.le_of_ble_eq_true rfl) ?_
      refine m_J5_isLatin1_aae02 s0 (by omega) ?_
      refine T_if_eq dJ5_append_c97b9_21 (t := 37) rfl (fun hc => absurd hc (by decide)) (fun _ => ?_)
      refine T_iload_n dJ5_append_c97b9_24 rfl ?_
      refine T_iload_n dJ5_append_c97b9_25 rfl ?_
      refine T_aload_n dJ5_append_c97b9_26 rfl ?_
      refine T_getfield dJ5_append_c97b9_27 zkf_25_15 s0 rfl ?_
      refine T_callS dJ5_append_c97b9_30 zkm_25_248 ⟨Nat.le_of_ble_eq_true rfl, Nat.le_of_ble_eq_true rfl, rfl⟩ rfl (Nat.le_of_ble_eq_true rfl) ?_
      refine m_J6_getChars_ba4f3 (w := (O.1 + 1)) s1 d2 d3 hg2 hg3 hdv (by omega) (by omega) (by omega) (by omega) (fun r930 by330 hh30 k30a k30b f30a fr30 => ?_)
      refine T_pop dJ5_append_c97b9_33 ?_
      refine T_goto dJ5_append_c97b9_34 (t := 48) rfl ?_
      refine T_aload_n dJ5_append_c97b9_48 rfl ?_
      refine T_iload_n dJ5_append_c97b9_49 rfl ?_
      refine T_putfield dJ5_append_c97b9_50 zkf_25_79 ((fr30 _ (by omega)).trans s0) (Nat.le_of_ble_eq_true rfl) (by omega) rfl (fun hf => absurd hf (by decide)) rfl ?_
      refine T_aload_n dJ5_append_c97b9_53 rfl ?_
      refine T_aret dJ5_append_c97b9_54 rfl ?_
      have e9 : True := trivial
      have e8 : zdig O (x : Int) = (zput O (48 + (x : Int) % 10)) := by unfold zdig; rw [if_neg (by omega)]
      rw [e8] at hQ
      exact hQ vb N n k _ ⟨Nat.le_refl _, Nat.le_refl _, by omega, Nat.le_refl _, by omega⟩ (Or.inl ⟨rfl, rfl⟩) ⟨_, ml, zup_self, (zup_ne (by omega) f30a), by show O.1 + 1 ≤ N; omega, by omega, fun i hi => by
        have hi : i < O.1 + 1 := hi
        rw [k30a (by omega)]
        show zfu _ (O.1 + 1 - 1) _ i = zfu O.2 O.1 _ i
        rw [show O.1 + 1 - 1 = O.1 by omega]
        by_cases e7 : i = O.1
        · rw [e7, zfu_self, zfu_self]
        · rw [zfu_ne e7, zfu_ne e7]; exact s4 i (by omega)⟩ (fun q a1 a2 a3 => ((zup_nf (by omega)).trans (((fr30 _ (by omega)).trans (rfl)))))
    · refine T_aload_n dJ5_append_c97b9_17 rfl ?_
      refine T_callV dJ5_append_c97b9_18 zkm_25_83 (Or.inr rfl) rfl f14a ⟨Nat.le_of_ble_eq_true rfl, rfl⟩ rfl (Nat.le_of_ble_eq_true rfl) ?_
      refine m_J5_isLatin1_aae02 f14a (by omega) ?_
      refine T_if_eq dJ5_append_c97b9_21 (t := 37) rfl (fun hc => absurd hc (by decide)) (fun _ => ?_)
      refine T_iload_n dJ5_append_c97b9_24 rfl ?_
      refine T_iload_n dJ5_append_c97b9_25 rfl ?_
      refine T_aload_n dJ5_append_c97b9_26 rfl ?_
      refine T_getfield dJ5_append_c97b9_27 zkf_25_15 f14a rfl ?_
      refine T_callS dJ5_append_c97b9_30 zkm_25_248 ⟨Nat.le_of_ble_eq_true rfl, Nat.le_of_ble_eq_true rfl, rfl⟩ rfl (Nat.le_of_ble_eq_true rfl) ?_
      refine m_J6_getChars_ba4f3 (w := (O.1 + 1)) f14b ((fr14 _ (by omega) (by omega)).trans d2) ((fr14 _ (by omega) (by omega)).trans d3) hg2 hg3 hdv (by omega) (by omega) (by omega) (by omega) (fun r930 by330 hh30 k30a k30b f30a fr30 => ?_)
      refine T_pop dJ5_append_c97b9_33 ?_
      refine T_goto dJ5_append_c97b9_34 (t := 48) rfl ?_
      refine T_aload_n dJ5_append_c97b9_48 rfl ?_
      refine T_iload_n dJ5_append_c97b9_49 rfl ?_
      refine T_putfield dJ5_append_c97b9_50 zkf_25_79 ((fr30 _ (by omega)).trans f14a) (Nat.le_of_ble_eq_true rfl) (by omega) rfl (fun hf => absurd hf (by decide)) rfl ?_
      refine T_aload_n dJ5_append_c97b9_53 rfl ?_
      refine T_aret dJ5_append_c97b9_54 rfl ?_
      have e9 : True := trivial
      have e8 : zdig O (x : Int) = (zput O (48 + (x : Int) % 10)) := by unfold zdig; rw [if_neg (by omega)]
      rw [e8] at hQ
      exact hQ n (2 * N + 2) (n + 1) (k + (2 * N + 2)) _ ⟨by omega, by omega, by omega, by omega, by omega⟩ (Or.inr ⟨Nat.le_refl _, by omega⟩) ⟨_, ml, zup_self, (zup_ne (by omega) f30a), by show O.1 + 1 ≤ 2 * N + 2; omega, by omega, fun i hi => by
        have hi : i < O.1 + 1 := hi
        rw [k30a (by omega)]
        show zfu _ (O.1 + 1 - 1) _ i = zfu O.2 O.1 _ i
        rw [show O.1 + 1 - 1 = O.1 by omega]
        by_cases e7 : i = O.1
        · rw [e7, zfu_self, zfu_self]
        · rw [zfu_ne e7, zfu_ne e7]; exact (k14b i (by omega)).trans (s4 i (by omega))⟩ (fun q a1 a2 a3 => ((zup_nf (by omega)).trans (((fr30 _ (by omega)).trans (((fr14 _ (by omega) (by omega)).trans (rfl)))))))
  · refine T_iadd dJ5_append_c97b9_10 ⟨by omega, by omega⟩ ?_
    refine T_istore_n dJ5_append_c97b9_11 (Nat.le_of_ble_eq_true rfl) ?_
    refine T_aload_n dJ5_append_c97b9_12 rfl ?_
    refine T_iload_n dJ5_append_c97b9_13 rfl ?_
    refine T_callV dJ5_append_c97b9_14 zkm_25_100 (Or.inr rfl) rfl s0 ⟨Nat.le_of_ble_eq_true rfl, rfl⟩ rfl (Nat.le_of_ble_eq_true rfl) ?_
    refine m_J5_ensureCapacityInternal_d00df (w := (O.1 + 2)) s0 s1 (by omega) (by omega) (by omega) (fun k14a => ?_) (fun by214 hh14 k14a_2 k14b f14a f14b fr14 => ?_)
    · refine T_aload_n dJ5_append_c97b9_17 rfl ?_
      refine T_callV dJ5_append_c97b9_18 zkm_25_83 (Or.inr rfl) rfl s0 ⟨Nat.le_of_ble_eq_true rfl, rfl⟩ rfl (Nat.le_of_ble_eq_true rfl) ?_
      refine m_J5_isLatin1_aae02 s0 (by omega) ?_
      refine T_if_eq dJ5_append_c97b9_21 (t := 37) rfl (fun hc => absurd hc (by decide)) (fun _ => ?_)
      refine T_iload_n dJ5_append_c97b9_24 rfl ?_
      refine T_iload_n dJ5_append_c97b9_25 rfl ?_
      refine T_aload_n dJ5_append_c97b9_26 rfl ?_
      refine T_getfield dJ5_append_c97b9_27 zkf_25_15 s0 rfl ?_
      refine T_callS dJ5_append_c97b9_30 zkm_25_248 ⟨Nat.le_of_ble_eq_true rfl, Nat.le_of_ble_eq_true rfl, rfl⟩ rfl (Nat.le_of_ble_eq_true rfl) ?_
      refine m_J6_getChars_ba4f3 (w := (O.1 + 2)) s1 d2 d3 hg2 hg3 hdv (by omega) (by omega) (by omega) (by omega) (fun r930 by330 hh30 k30a k30b f30a fr30 => ?_)
      refine T_pop dJ5_append_c97b9_33 ?_
      refine T_goto dJ5_append_c97b9_34 (t := 48) rfl ?_
      refine T_aload_n dJ5_append_c97b9_48 rfl ?_
      refine T_iload_n dJ5_append_c97b9_49 rfl ?_
      refine T_putfield dJ5_append_c97b9_50 zkf_25_79 ((fr30 _ (by omega)).trans s0) (Nat.le_of_ble_eq_true rfl) (by omega) rfl (fun hf => absurd hf (by decide)) rfl ?_
      refine T_aload_n dJ5_append_c97b9_53 rfl ?_
      refine T_aret dJ5_append_c97b9_54 rfl ?_
      have e9 : True := trivial
      have e8 : zdig O (x : Int) = (zput (zput O (48 + (x : Int) / 10)) (48 + (x : Int) % 10)) := by unfold zdig; rw [if_pos (by omega)]
      rw [e8] at hQ
      exact hQ vb N n k _ ⟨Nat.le_refl _, Nat.le_refl _, by omega, Nat.le_refl _, by omega⟩ (Or.inl ⟨rfl, rfl⟩) ⟨_, ml, zup_self, (zup_ne (by omega) f30a), by show O.1 + 1 + 1 ≤ N; omega, by omega, fun i hi => by
        have hi : i < O.1 + 1 + 1 := hi
        rw [k30b (by omega)]
        show zfu (zfu _ (O.1 + 2 - 1) _) (O.1 + 2 - 2) _ i = zfu (zfu O.2 O.1 _) (O.1 + 1) _ i
        rw [show O.1 + 2 - 1 = O.1 + 1 by omega, show O.1 + 2 - 2 = O.1 by omega]
        by_cases e7 : i = O.1
        · rw [e7, zfu_self, zfu_ne (show O.1 ≠ O.1 + 1 by omega), zfu_self]
        · rw [zfu_ne e7]
          by_cases e6 : i = O.1 + 1
          · rw [e6, zfu_self, zfu_self]
          · rw [zfu_ne e6, zfu_ne e6, zfu_ne e7]; exact s4 i (by omega)⟩ (fun q a1 a2 a3 => ((zup_nf (by omega)).trans (((fr30 _ (by omega)).trans (rfl)))))
    · refine T_aload_n dJ5_append_c97b9_17 rfl ?_
      refine T_callV dJ5_append_c97b9_18 zkm_25_83 (Or.inr rfl) rfl f14a ⟨Nat.le_of_ble_eq_true rfl, rfl⟩ rfl (Nat.le_of_ble_eq_true rfl) ?_
      refine m_J5_isLatin1_aae02 f14a (by omega) ?_
      refine T_if_eq dJ5_append_c97b9_21 (t := 37) rfl (fun hc => absurd hc (by decide)) (fun _ => ?_)
      refine T_iload_n dJ5_append_c97b9_24 rfl ?_
      refine T_iload_n dJ5_append_c97b9_25 rfl ?_
      refine T_aload_n dJ5_append_c97b9_26 rfl ?_
      refine T_getfield dJ5_append_c97b9_27 zkf_25_15 f14a rfl ?_
      refine T_callS dJ5_append_c97b9_30 zkm_25_248 ⟨Nat.le_of_ble_eq_true rfl, Nat.le_of_ble_eq_true rfl, rfl⟩ rfl (Nat.le_of_ble_eq_true rfl) ?_
      refine m_J6_getChars_ba4f3 (w := (O.1 + 2)) f14b ((fr14 _ (by omega) (by omega)).trans d2) ((fr14 _ (by omega) (by omega)).trans d3) hg2 hg3 hdv (by omega) (by omega) (by omega) (by omega) (fun r930 by330 hh30 k30a k30b f30a fr30 => ?_)
      refine T_pop dJ5_append_c97b9_33 ?_
      refine T_goto dJ5_append_c97b9_34 (t := 48) rfl ?_
      refine T_aload_n dJ5_append_c97b9_48 rfl ?_
      refine T_iload_n dJ5_append_c97b9_49 rfl ?_
      refine T_putfield dJ5_append_c97b9_50 zkf_25_79 ((fr30 _ (by omega)).trans f14a) (Nat.le_of_ble_eq_true rfl) (by omega) rfl (fun hf => absurd hf (by decide)) rfl ?_
      refine T_aload_n dJ5_append_c97b9_53 rfl ?_
      refine T_aret dJ5_append_c97b9_54 rfl ?_
      have e9 : True := trivial
      have e8 : zdig O (x : Int) = (zput (zput O (48 + (x : Int) / 10)) (48 + (x : Int) % 10)) := by unfold zdig; rw [if_pos (by omega)]
      rw [e8] at hQ
      exact hQ n (2 * N + 2) (n + 1) (k + (2 * N + 2)) _ ⟨by omega, by omega, by omega, by omega, by omega⟩ (Or.inr ⟨Nat.le_refl _, by omega⟩) ⟨_, ml, zup_self, (zup_ne (by omega) f30a), by show O.1 + 1 + 1 ≤ 2 * N + 2; omega, by omega, fun i hi => by
        have hi : i < O.1 + 1 + 1 := hi
        rw [k30b (by omega)]
        show zfu (zfu _ (O.1 + 2 - 1) _) (O.1 + 2 - 2) _ i = zfu (zfu O.2 O.1 _) (O.1 + 1) _ i
        rw [show O.1 + 2 - 1 = O.1 + 1 by omega, show O.1 + 2 - 2 = O.1 by omega]
        by_cases e7 : i = O.1
        · rw [e7, zfu_self, zfu_ne (show O.1 ≠ O.1 + 1 by omega), zfu_self]
        · rw [zfu_ne e7]
          by_cases e6 : i = O.1 + 1
          · rw [e6, zfu_self, zfu_self]
          · rw [zfu_ne e6, zfu_ne e6, zfu_ne e7]; exact (k14b i (by omega)).trans (s4 i (by omega))⟩ (fun q a1 a2 a3 => ((zup_nf (by omega)).trans (((fr30 _ (by omega)).trans (((fr14 _ (by omega) (by omega)).trans (rfl)))))))
set_option maxHeartbeats 4000000 in
set_option maxRecDepth 100000 in
theorem m_J4_append_bf812 {n0 n k : Nat} {g : Nat → zV} {h : zHp} {Q : Option zV → Nat → Nat → zHp → Prop} {a vb N : Nat} {O : tT} {lo0 x : Nat} (hg0 : g 0 = .inl 1) (hsb : sbA h a O vb N) (hw : n0 ≤ a ∧ n0 ≤ vb ∧ n0 ≤ n) (hd : a ≠ vb ∧ a < n ∧ vb < n) (hdg : dgOk g h lo0) (hlo0 : lo0 ≤ a ∧ lo0 ≤ vb ∧ lo0 ≤ n) (hO : O.1 ≤ 90) (hx : x ≤ 99) (hQ : ∀ (vb' N' n' k' : Nat) (h' : zHp), (N ≤ N' ∧ n ≤ n' ∧ n' ≤ n + (N' - N) ∧ k ≤ k' ∧ k' ≤ k + 3 * (N' - N)) → ((vb' = vb ∧ n' = n) ∨ (n ≤ vb' ∧ vb' < n')) → (sbA h' a (zdig O (x : Int)) vb' N') → (∀ q : Nat, q ≠ a → q ≠ vb → q < n → h' q = h q) → Q (some (.inr (some a))) n' k' h') : ZT n0 g mJ4_append_bf812 0 (zloc mJ4_append_bf812 [.inr (some a), .inl (x : Int)]) [] n k h Q := by
  show ZT n0 g mJ4_append_bf812 0 [some (.inr (some a)), some (.inl (x : Int))] [] n k h Q
  obtain ⟨by1, ml, s0, s1, s2, s3, s4⟩ := id hsb
  refine T_aload_n dJ4_append_bf812_0 rfl ?_
  refine T_iload_n dJ4_append_bf812_1 rfl ?_
  refine T_callU dJ4_append_bf812_2 zkm_0_53 rfl s0 ⟨Nat.le_of_ble_eq_true rfl, rfl⟩ rfl (Nat.le_of_ble_eq_true rfl) ?_
  refine m_J5_append_c97b9  (by omega) (by omega) (by omega) (by omega) hdg hlo0 hO (by omega) (fun vb'2 N'2 n'2 k'2 hh2 k2a k2b sb_2 pf_2 => ?_)
  refine T_pop dJ4_append_bf812_5 ?_
  refine T_aload_n dJ4_append_bf812_6 rfl ?_
  refine T_aret dJ4_append_bf812_7 rfl ?_
  exact hQ vb'2 N'2 n'2 k'2 hh2 k2a k2b sb_2 pf_2
set_option maxHeartbeats 4000000 in
set_option maxRecDepth 100000 in
theorem m_J5_setLength_d00df {n0 n k : Nat} {g : Nat → zV} {h : zHp} {Q : Option zV → Nat → Nat → zHp → Prop} {a vb N : Nat} {O : tT} (hg0 : g 0 = .inl 1) (hsb : sbA h a O vb N) (hw : n0 ≤ a ∧ n0 ≤ vb ∧ n0 ≤ n) (hd : a ≠ vb ∧ a < n ∧ vb < n) (hQ : ∀  (h' : zHp), (sbA h' a oNil vb N) → (∀ q : Nat, q ≠ a → h' q = h q) → Q none n k h') : ZT n0 g mJ5_setLength_d00df 0 (zloc mJ5_setLength_d00df [.inr (some a), .inl 0]) [] n k h Q := by
  show ZT n0 g mJ5_setLength_d00df 0 [some (.inr (some a)), some (.inl 0)] [] n k h Q
  obtain ⟨by1, ml, s0, s1, s2, s3, s4⟩ := id hsb
  refine T_iload_n dJ5_setLength_d00df_0 rfl ?_
  refine T_if_ge dJ5_setLength_d00df_1 (t := 13) rfl (fun _ => ?_) (fun hc => absurd hc (by decide))
  refine T_aload_n dJ5_setLength_d00df_13 rfl ?_
  refine T_iload_n dJ5_setLength_d00df_14 rfl ?_
  refine T_callV dJ5_setLength_d00df_15 zkm_25_100 (Or.inr rfl) rfl s0 ⟨Nat.le_of_ble_eq_true rfl, rfl⟩ rfl (Nat.le_of_ble_eq_true rfl) ?_
  refine m_J5_ensureCapacityInternal_d00df (w := 0) s0 s1 (by omega) (by omega) (by omega) (fun k15a => ?_) (fun by215 hh15 k15a_2 k15b f15a f15b fr15 => absurd k15a_2 (by omega))
  refine T_aload_n dJ5_setLength_d00df_18 rfl ?_
  refine T_getfield dJ5_setLength_d00df_19 zkf_25_79 s0 rfl ?_
  refine T_iload_n dJ5_setLength_d00df_22 rfl ?_
  
  refine T_icmp_ge dJ5_setLength_d00df_23 (t := 63) rfl (fun _ => ?_) (fun hc => absurd hc (by omega))
  refine T_aload_n dJ5_setLength_d00df_63 rfl ?_
  refine T_getfield dJ5_setLength_d00df_64 zkf_25_79 s0 rfl ?_
  refine T_iload_n dJ5_setLength_d00df_67 rfl ?_
  refine T_icmp_le dJ5_setLength_d00df_68 (t := 76) rfl (fun c68 => ?_) (fun c68 => ?_)
  · refine T_aload_n dJ5_setLength_d00df_76 rfl ?_
    refine T_iload_n dJ5_setLength_d00df_77 rfl ?_
    refine T_putfield dJ5_setLength_d00df_78 zkf_25_79 s0 (Nat.le_of_ble_eq_true rfl) (by omega) rfl (fun hf => absurd hf (by decide)) rfl ?_
    refine T_vret dJ5_setLength_d00df_81 rfl ?_
    exact hQ _ ⟨by1, _, zup_self, (zup_ne (by omega) s1), Nat.zero_le _, s3, fun i hi => absurd hi (Nat.not_lt_zero i)⟩ (fun q q1 => ((zup_nf (by omega)).trans (rfl)))
  · refine T_aload_n dJ5_setLength_d00df_71 rfl ?_
    refine T_iconst dJ5_setLength_d00df_72 (by decide) ?_
    refine T_putfield dJ5_setLength_d00df_73 zkf_25_73 s0 (Nat.le_of_ble_eq_true rfl) (by omega) rfl (fun hf => absurd hf (by decide)) rfl ?_
    refine T_aload_n dJ5_setLength_d00df_76 rfl ?_
    refine T_iload_n dJ5_setLength_d00df_77 rfl ?_
    refine T_putfield dJ5_setLength_d00df_78 zkf_25_79 zup_self (Nat.le_of_ble_eq_true rfl) (by omega) rfl (fun hf => absurd hf (by decide)) rfl ?_
    refine T_vret dJ5_setLength_d00df_81 rfl ?_
    exact hQ _ ⟨by1, _, zup_self, (zup_ne (by omega) (zup_ne (by omega) s1)), Nat.zero_le _, s3, fun i hi => absurd hi (Nat.not_lt_zero i)⟩ (fun q q1 => ((zup_nf (by omega)).trans (((zup_nf (by omega)).trans (rfl)))))
set_option maxHeartbeats 4000000 in
set_option maxRecDepth 100000 in
theorem m_J4_setLength_d00df {n0 n k : Nat} {g : Nat → zV} {h : zHp} {Q : Option zV → Nat → Nat → zHp → Prop} {a vb N : Nat} {O : tT} (hg0 : g 0 = .inl 1) (hsb : sbA h a O vb N) (hw : n0 ≤ a ∧ n0 ≤ vb ∧ n0 ≤ n) (hd : a ≠ vb ∧ a < n ∧ vb < n) (hQ : ∀  (h' : zHp), (sbA h' a oNil vb N) → (∀ q : Nat, q ≠ a → h' q = h q) → Q none n k h') : ZT n0 g mJ4_setLength_d00df 0 (zloc mJ4_setLength_d00df [.inr (some a), .inl 0]) [] n k h Q := by
  show ZT n0 g mJ4_setLength_d00df 0 [some (.inr (some a)), some (.inl 0)] [] n k h Q
  obtain ⟨by1, ml, s0, s1, s2, s3, s4⟩ := id hsb
  refine T_aload_n dJ4_setLength_d00df_0 rfl ?_
  refine T_iload_n dJ4_setLength_d00df_1 rfl ?_
  refine T_callU dJ4_setLength_d00df_2 zkm_0_333 rfl s0 ⟨Nat.le_of_ble_eq_true rfl, rfl⟩ rfl (Nat.le_of_ble_eq_true rfl) ?_
  refine m_J5_setLength_d00df  (by omega) (by omega) (by omega) (by omega) (fun hh2 sb_2 pf_2 => ?_)
  refine T_vret dJ4_setLength_d00df_5 rfl ?_
  exact hQ hh2 sb_2 pf_2
set_option maxHeartbeats 4000000 in
set_option maxRecDepth 100000 in
theorem m_J3_checkIndex_8e157 {n0 n k : Nat} {g : Nat → zV} {h : zHp} {Q : Option zV → Nat → Nat → zHp → Prop} {x y : Int} {r : Option Nat} (hx : 0 ≤ x ∧ x < y) (hQ : Q (some (.inl x)) n k h) : ZT n0 g mJ3_checkIndex_8e157 0 (zloc mJ3_checkIndex_8e157 [.inl x, .inl y, .inr r]) [] n k h Q := by
  show ZT n0 g mJ3_checkIndex_8e157 0 [some (.inl x), some (.inl y), some (.inr r)] [] n k h Q
  refine T_iload_n dJ3_checkIndex_8e157_0 rfl ?_
  refine T_if_lt dJ3_checkIndex_8e157_1 (t := 9) rfl (fun hc => absurd hc (by omega)) (fun _ => ?_)
  refine T_iload_n dJ3_checkIndex_8e157_4 rfl ?_
  refine T_iload_n dJ3_checkIndex_8e157_5 rfl ?_
  refine T_icmp_lt dJ3_checkIndex_8e157_6 (t := 16) rfl (fun _ => ?_) (fun hc => absurd hc (by omega))
  refine T_iload_n dJ3_checkIndex_8e157_16 rfl ?_
  refine T_iret dJ3_checkIndex_8e157_17 rfl ?_
  exact hQ
set_option maxHeartbeats 4000000 in
set_option maxRecDepth 100000 in
theorem m_J0_checkIndex_df160 {n0 n k : Nat} {g : Nat → zV} {h : zHp} {Q : Option zV → Nat → Nat → zHp → Prop} {x y : Int} {r4 : Option Nat} (hx : 0 ≤ x ∧ x < y) (hg4 : g 4 = .inr r4) (hQ : Q none n k h) : ZT n0 g mJ0_checkIndex_df160 0 (zloc mJ0_checkIndex_df160 [.inl x, .inl y]) [] n k h Q := by
  show ZT n0 g mJ0_checkIndex_df160 0 [some (.inl x), some (.inl y)] [] n k h Q
  refine T_iload_n dJ0_checkIndex_df160_0 rfl ?_
  refine T_iload_n dJ0_checkIndex_df160_1 rfl ?_
  refine T_getstatic dJ0_checkIndex_df160_2 zks_21_1053 ?_
  rw [hg4]
  refine T_callS dJ0_checkIndex_df160_5 zkm_21_1059 ⟨Nat.le_of_ble_eq_true rfl, Nat.le_of_ble_eq_true rfl, rfl⟩ rfl (Nat.le_of_ble_eq_true rfl) ?_
  refine m_J3_checkIndex_8e157  (by omega) ?_
  refine T_pop dJ0_checkIndex_df160_8 ?_
  refine T_vret dJ0_checkIndex_df160_9 rfl ?_
  exact hQ
set_option maxHeartbeats 4000000 in
set_option maxRecDepth 100000 in
theorem m_J5_charAt_5068e {n0 n k : Nat} {g : Nat → zV} {h : zHp} {Q : Option zV → Nat → Nat → zHp → Prop} {a vb N c : Nat} {ml : Int} {by1 : Nat → Int} {i : Nat} {r4 : Option Nat} (s0 : h a = some (.inl (0, [.inr (some vb), .inl 0, .inl ml, .inl (c : Int)]))) (s1 : h vb = some (.inr (.inl (1, N, by1)))) (hg4 : g 4 = .inr r4) (hi : i < c ∧ c ≤ N ∧ N ≤ 200) (hb : 0 ≤ by1 i ∧ by1 i ≤ 127) (hQ : Q (some (.inl (by1 i))) n k h) : ZT n0 g mJ5_charAt_5068e 0 (zloc mJ5_charAt_5068e [.inr (some a), .inl (i : Int)]) [] n k h Q := by
  show ZT n0 g mJ5_charAt_5068e 0 [some (.inr (some a)), some (.inl (i : Int)), none, none, none] [] n k h Q
  refine T_aload_n dJ5_charAt_5068e_0 rfl ?_
  refine T_getfield dJ5_charAt_5068e_1 zkf_25_22 s0 rfl ?_
  refine T_istore_n dJ5_charAt_5068e_4 (Nat.le_of_ble_eq_true rfl) ?_
  refine T_aload_n dJ5_charAt_5068e_5 rfl ?_
  refine T_getfield dJ5_charAt_5068e_6 zkf_25_15 s0 rfl ?_
  refine T_astore_n dJ5_charAt_5068e_9 (Nat.le_of_ble_eq_true rfl) ?_
  refine T_aload_n dJ5_charAt_5068e_10 rfl ?_
  refine T_getfield dJ5_charAt_5068e_11 zkf_25_79 s0 rfl ?_
  refine T_aload_n dJ5_charAt_5068e_14 rfl ?_
  refine T_arraylength dJ5_charAt_5068e_15 s1 ?_
  refine T_iload_n dJ5_charAt_5068e_16 rfl ?_
  refine T_ishr dJ5_charAt_5068e_17 ?_; rw [zishr0 ⟨by omega, by omega⟩]
  refine T_callS dJ5_charAt_5068e_18 zkm_25_138 ⟨Nat.le_of_ble_eq_true rfl, Nat.le_of_ble_eq_true rfl, rfl⟩ rfl (Nat.le_of_ble_eq_true rfl) ?_
  refine m_Jmin   ?_
  refine T_istore dJ5_charAt_5068e_21 (Nat.le_of_ble_eq_true rfl) ?_
  have emn : min (c : Int) (N : Int) = (c : Int) := by rw [Int.min_def, if_pos (by omega)]
  refine T_iload_n dJ5_charAt_5068e_23 rfl ?_
  refine T_iload dJ5_charAt_5068e_24 rfl ?_
  refine T_callS dJ5_charAt_5068e_26 zkm_25_144 ⟨Nat.le_of_ble_eq_true rfl, Nat.le_of_ble_eq_true rfl, rfl⟩ rfl (Nat.le_of_ble_eq_true rfl) ?_
  refine m_J0_checkIndex_df160  ⟨by omega, by omega⟩ hg4 ?_
  refine T_iload_n dJ5_charAt_5068e_29 rfl ?_
  refine T_if_ne dJ5_charAt_5068e_30 (t := 42) rfl (fun hc => absurd hc (by decide)) (fun _ => ?_)
  refine T_aload_n dJ5_charAt_5068e_33 rfl ?_
  refine T_iload_n dJ5_charAt_5068e_34 rfl ?_
  refine T_baloadN (m := i) dJ5_charAt_5068e_35 s1 (by decide) rfl (by omega) ?_
  refine T_sipush dJ5_charAt_5068e_36 (by decide) ?_
  obtain ⟨b9, eb9⟩ := Int.eq_ofNat_of_zero_le hb.1; rw [eb9]; refine T_iand dJ5_charAt_5068e_39 ?_; rw [zand255 b9 (by omega)]; rw [← eb9]
  refine T_i2c dJ5_charAt_5068e_40 ⟨by omega, by omega⟩ ?_
  refine T_iret dJ5_charAt_5068e_41 (zretC (by omega)) ?_
  exact hQ
set_option maxHeartbeats 4000000 in
set_option maxRecDepth 100000 in
theorem m_J4_charAt_5068e {n0 n k : Nat} {g : Nat → zV} {h : zHp} {Q : Option zV → Nat → Nat → zHp → Prop} {a vb N c : Nat} {ml : Int} {by1 : Nat → Int} {i : Nat} {r4 : Option Nat} (s0 : h a = some (.inl (0, [.inr (some vb), .inl 0, .inl ml, .inl (c : Int)]))) (s1 : h vb = some (.inr (.inl (1, N, by1)))) (hg4 : g 4 = .inr r4) (hi : i < c ∧ c ≤ N ∧ N ≤ 200) (hb : 0 ≤ by1 i ∧ by1 i ≤ 127) (hQ : Q (some (.inl (by1 i))) n k h) : ZT n0 g mJ4_charAt_5068e 0 (zloc mJ4_charAt_5068e [.inr (some a), .inl (i : Int)]) [] n k h Q := by
  show ZT n0 g mJ4_charAt_5068e 0 [some (.inr (some a)), some (.inl (i : Int))] [] n k h Q
  refine T_aload_n dJ4_charAt_5068e_0 rfl ?_
  refine T_iload_n dJ4_charAt_5068e_1 rfl ?_
  refine T_callU dJ4_charAt_5068e_2 zkm_0_329 rfl s0 ⟨Nat.le_of_ble_eq_true rfl, rfl⟩ rfl (Nat.le_of_ble_eq_true rfl) ?_
  refine m_J5_charAt_5068e s0 s1 hg4 (by omega) hb ?_
  refine T_iret dJ4_charAt_5068e_5 (zretC (by omega)) ?_
  exact hQ
