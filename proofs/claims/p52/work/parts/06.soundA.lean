/-! ===== the small machine is the big one's picture: instructions of locals, operands, numbers; jumps ===== -/
def zv : zV → Value
  | .inl z => .int (Int32.ofInt z)
  | .inr none => .null
  | .inr (some a) => .ref a
def zw : zV → Prop
  | .inl z => zR z
  | .inr _ => True
theorem zv_rf (r : Option Nat) : va_rf r = zv (.inr r) := by cases r <;> rfl
theorem zv_cat (v : zV) : (zv v).category = 1 := by
  rcases v with z | r
  · rfl
  · cases r <;> rfl
theorem zI_toInt {z : Int} (h : zR z) : (Int32.ofInt z).toInt = z := by
  rw [Int32.toInt_ofInt]
  exact Int.bmod_eq_of_le (by have := h.1; simp [Int32.size]; omega) (by have := h.2; simp [Int32.size]; omega)
theorem zR_of (x : Int32) : zR x.toInt := ⟨by have := Int32.le_toInt x; simpa using this, by have := Int32.toInt_lt x; omega⟩
theorem zI_ext {x : Int32} {z : Int} (hz : zR z) (h : x.toInt = z) : x = Int32.ofInt z := Int32.toInt_inj.mp (by rw [h, zI_toInt hz])
theorem zI_eq {x y : Int} (hx : zR x) (hy : zR y) : Int32.ofInt x = Int32.ofInt y ↔ x = y := by
  constructor
  · intro h
    have := congrArg Int32.toInt h
    rwa [zI_toInt hx, zI_toInt hy] at this
  · intro h; rw [h]
theorem zI_lt {x y : Int} (hx : zR x) (hy : zR y) : Int32.ofInt x < Int32.ofInt y ↔ x < y := by rw [Int32.lt_iff_toInt_lt, zI_toInt hx, zI_toInt hy]
theorem zI_le {x y : Int} (hx : zR x) (hy : zR y) : Int32.ofInt x ≤ Int32.ofInt y ↔ x ≤ y := by rw [Int32.le_iff_toInt_le, zI_toInt hx, zI_toInt hy]
theorem zI_0 : (0 : Int32) = Int32.ofInt 0 := by decide
theorem zR0 : zR 0 := by decide
theorem zI_div {x y : Int} (hx : zR x) (hy : zR y) (hq : zR (x.tdiv y)) : Int32.ofInt x / Int32.ofInt y = Int32.ofInt (x.tdiv y) := by
  apply zI_ext hq
  rw [Int32.toInt_div, zI_toInt hx, zI_toInt hy]
  exact Int.bmod_eq_of_le (by have := hq.1; omega) (by have := hq.2; omega)
theorem zI_rem {x y : Int} (hx : zR x) (hy : zR y) (hq : zR (x.tdiv y)) : Int32.ofInt x - Int32.ofInt x / Int32.ofInt y * Int32.ofInt y = Int32.ofInt (x.tmod y) := by
  rw [zI_div hx hy hq, ← Int32.ofInt_mul, ← Int32.ofInt_sub]
  congr 1
  have := Int.tmod_add_mul_tdiv x y
  rw [Int.mul_comm]
  omega
theorem zI_idx {i : Int} {N : Nat} (h0 : 0 ≤ i) (h1 : i < (N : Int)) (hN : N < 2 ^ 31) : (Int32.ofInt i).toNatClampNeg = i.toNat ∧ ¬ Int32.ofInt i < 0 := by
  have hr : zR i := ⟨by omega, by omega⟩
  constructor
  · show (Int32.ofInt i).toInt.toNat = _
    rw [zI_toInt hr]
  · rw [zI_0, zI_lt hr zR0]; omega
theorem zR_8 {z : Int} (h : -128 ≤ z ∧ z ≤ 127) : zR z := ⟨by omega, by omega⟩
theorem zR_16 {z : Int} (h : -32768 ≤ z ∧ z ≤ 32767) : zR z := ⟨by omega, by omega⟩
theorem zI_8 {z : Int} (h : -128 ≤ z ∧ z ≤ 127) : (Int8.ofInt z).toInt32 = Int32.ofInt z := by
  refine zI_ext (zR_8 h) ?_
  rw [Int8.toInt_toInt32, Int8.toInt_ofInt, show Int8.size = 256 from rfl]
  exact Int.bmod_eq_of_le (by omega) (by omega)
theorem zI_16 {z : Int} (h : -32768 ≤ z ∧ z ≤ 32767) : (Int16.ofInt z).toInt32 = Int32.ofInt z := by
  refine zI_ext (zR_16 h) ?_
  rw [Int16.toInt_toInt32, Int16.toInt_ofInt, show Int16.size = 65536 from rfl]
  exact Int.bmod_eq_of_le (by omega) (by omega)
theorem zR_rem {x y : Int} (hy : zR y) (h0 : y ≠ 0) : zR (x.tmod y) := by
  have h1 := Int.natAbs_tmod x y
  have h2 := Nat.mod_lt x.natAbs (show 0 < y.natAbs by omega)
  have h3 := hy.1
  have h4 := hy.2
  constructor <;> omega
/-- the locals as the big machine has them -/
def zL (L : List (Option zV)) (ls : Array Slot) : Prop := ls.size = L.length ∧ lv_wf ls ∧ ∀ (i : Nat) (v : zV), L[i]? = some (some v) → ls[i]? = some (.val (zv v)) ∧ zw v
def zprs (L : List (Option zV)) : List (Nat × Value) := (List.range L.length).filterMap fun i => match L[i]? with
  | some (some v) => some (i, zv v)
  | _ => none
theorem zprs_mem {L : List (Option zV)} {i : Nat} {x : Value} : (i, x) ∈ zprs L ↔ ∃ v, L[i]? = some (some v) ∧ x = zv v := by
  unfold zprs
  rw [List.mem_filterMap]
  constructor
  · rintro ⟨j, -, h⟩
    split at h
    · rename_i v hv
      cases h
      exact ⟨v, hv, rfl⟩
    · cases h
  · rintro ⟨v, hv, rfl⟩
    refine ⟨i, List.mem_range.mpr (List.getElem?_eq_some_iff.mp hv).1, ?_⟩
    rw [hv]
theorem zL.has {L : List (Option zV)} {ls : Array Slot} (h : zL L ls) : lv_has ls L.length (zprs L) := by
  refine ⟨h.1, h.2.1, ?_⟩
  rintro ⟨i, x⟩ hq
  obtain ⟨v, hv, rfl⟩ := zprs_mem.mp hq
  exact (h.2.2 i v hv).1
theorem zL.put {L : List (Option zV)} {ls ls' : Array Slot} {i : Nat} {v : zV} (h : zL L ls) (hv : zw v) (hi : i < L.length) (h' : lv_has ls' L.length ((i, zv v) :: (zprs L).filter (fun q => !(q.1 == i) && !(q.1 + 1 == i && q.2.category == 2)))) : zL (L.set i (some v)) ls' := by
  refine ⟨by rw [List.length_set]; exact h'.1, h'.2.1, fun j w hj => ?_⟩
  by_cases hji : j = i
  · subst hji
    rw [List.getElem?_set_self hi] at hj
    cases hj
    exact ⟨h'.2.2 (j, zv v) List.mem_cons_self, hv⟩
  · rw [List.getElem?_set_ne (Ne.symm hji)] at hj
    refine ⟨h'.2.2 (j, zv w) (List.mem_cons_of_mem _ (List.mem_filter.mpr ⟨zprs_mem.mpr ⟨w, hj, rfl⟩, ?_⟩)), (h.2.2 j w hj).2⟩
    simp [hji, zv_cat]
section ZSA
variable {p : Program} {l : Launch} {e : Env} {R : Room} {s : State} {m : MethodId} {args : Array Value} {below : List Frame} {meth : Method} {c : Code} {H : Heap} {locs : List Loc} {cells slots : Nat} {Q : State → Prop}
set_option maxHeartbeats 4000000 in
theorem zA_ok {bs : ByteArray} (hexec : p.tables.exec = Jvm.exec) (hb : c.code = bs) {ins : Instr} {len pc : Nat} {L L' : List (Option zV)} {st st' : List zV} {ls : Array Slot} (h : zA ins len L st = some (L', st')) (hd : decode bs pc = .ok (ins, len)) (hL : zL L ls) (hw : ∀ v ∈ st, zw v)
    (kk : ∀ ls' : Array Slot, zL L' ls' → (∀ v ∈ st', zw v) → W p l e R s m args below meth c H locs cells slots Q (F0 m (pc + len) ls' (st'.map zv))) : W p l e R s m args below meth c H locs cells slots Q (F0 m pc ls (st.map zv)) := by
  unfold zA at h
  split at h
  -- aconst_null
  · cases h
    exact lv_null hexec hb hd (kk ls hL (by simpa [zw] using hw))
  -- aload, aload_n, iload, iload_n
  · split at h
    · rename_i r hr
      cases h
      have hg := (hL.2.2 _ _ hr).1
      have k2 := kk ls hL (by simpa [zw] using hw)
      cases r with
      | none => exact lv_aloadN hexec hb hd hg k2
      | some a => exact lv_aload hexec hb hd hg k2
    · cases h
  · split at h
    · rename_i r hr
      cases h
      have hg := (hL.2.2 _ _ hr).1
      have k2 := kk ls hL (by simpa [zw] using hw)
      cases r with
      | none => exact lv_aload_nN hexec hb hd rfl hg k2
      | some a => exact lv_aload_n hexec hb hd rfl hg k2
    · cases h
  · split at h
    · rename_i z hr
      cases h
      have hg := hL.2.2 _ _ hr
      exact lv_iload hexec hb hd hg.1 (kk ls hL (by simpa using ⟨hg.2, hw⟩))
    · cases h
  · split at h
    · rename_i z hr
      cases h
      have hg := hL.2.2 _ _ hr
      exact lv_iload_n hexec hb hd rfl hg.1 (kk ls hL (by simpa using ⟨hg.2, hw⟩))
    · cases h
  -- astore, astore_n, istore, istore_n
  · split at h
    · rename_i r st0 hi
      cases h
      rw [List.forall_mem_cons] at hw
      cases r with
      | none => exact lv_astoreN hexec hb hd hL.has hi rfl fun ls' h' => kk ls' (hL.put hw.1 hi h') hw.2
      | some a => exact lv_astore hexec hb hd hL.has hi rfl fun ls' h' => kk ls' (hL.put hw.1 hi h') hw.2
    · cases h
  · split at h
    · rename_i r st0 hi
      cases h
      rw [List.forall_mem_cons] at hw
      cases r with
      | none => exact lv_astore_nN hexec hb hd rfl hL.has hi rfl fun ls' h' => kk ls' (hL.put hw.1 hi h') hw.2
      | some a => exact lv_astore_n hexec hb hd rfl hL.has hi rfl fun ls' h' => kk ls' (hL.put hw.1 hi h') hw.2
    · cases h
  · split at h
    · rename_i r st0 hi
      cases h
      rw [List.forall_mem_cons] at hw
      exact lv_istore hexec hb hd hL.has hi rfl fun ls' h' => kk ls' (hL.put hw.1 hi h') hw.2
    · cases h
  · split at h
    · rename_i r st0 hi
      cases h
      rw [List.forall_mem_cons] at hw
      exact lv_istore_n hexec hb hd rfl hL.has hi rfl fun ls' h' => kk ls' (hL.put hw.1 hi h') hw.2
    · cases h
  -- iconst, bipush, sipush
  · split at h
    · rename_i hr
      cases h
      exact lv_iconst hexec hb hd rfl (kk ls hL (by simpa using ⟨hr, hw⟩))
    · cases h
  · split at h
    · rename_i hr
      cases h
      exact lv_bipush hexec hb hd (zI_8 hr) (kk ls hL (by simpa using ⟨zR_8 hr, hw⟩))
    · cases h
  · split at h
    · rename_i hr
      cases h
      exact lv_sipush hexec hb hd (zI_16 hr) (kk ls hL (by simpa using ⟨zR_16 hr, hw⟩))
    · cases h
  -- dup, pop, dup_x1, dup2
  · cases h
    rw [List.forall_mem_cons] at hw
    exact lv_dup hexec hb hd (zv_cat _) (kk ls hL (by simpa using hw))
  · cases h
    rw [List.forall_mem_cons] at hw
    exact lv_pop hexec hb hd (zv_cat _) (kk ls hL hw.2)
  · cases h
    rw [List.forall_mem_cons, List.forall_mem_cons] at hw
    exact lv_dup_x1 hexec hb hd (zv_cat _) (zv_cat _) (kk ls hL (by simpa using ⟨hw.1, hw.2.1, hw.1, hw.2.2⟩))
  · cases h
    rw [List.forall_mem_cons, List.forall_mem_cons] at hw
    exact lv_dup2_11 hexec hb hd (zv_cat _) (zv_cat _) (kk ls hL (by simpa using ⟨hw.1, hw.2.1, hw.1, hw.2.1, hw.2.2⟩))
  -- iadd, isub, imul
  · split at h
    · rename_i hr
      cases h
      rw [List.forall_mem_cons, List.forall_mem_cons] at hw
      have k2 := kk ls hL (by simpa using ⟨hr, hw.2.2⟩)
      rw [List.map_cons, zv, Int32.ofInt_add] at k2
      exact lv_iadd hexec hb hd k2
    · cases h
      rw [List.forall_mem_cons, List.forall_mem_cons] at hw
      have k2 := kk ls hL (by simpa using ⟨zR_of _, hw.2.2⟩)
      rw [List.map_cons, zv, zbit, Int32.ofInt_toInt] at k2
      exact lv_iadd hexec hb hd k2
  · split at h
    · rename_i hr
      cases h
      rw [List.forall_mem_cons, List.forall_mem_cons] at hw
      have k2 := kk ls hL (by simpa using ⟨hr, hw.2.2⟩)
      rw [List.map_cons, zv, Int32.ofInt_sub] at k2
      exact lv_isub hexec hb hd k2
    · cases h
      rw [List.forall_mem_cons, List.forall_mem_cons] at hw
      have k2 := kk ls hL (by simpa using ⟨zR_of _, hw.2.2⟩)
      rw [List.map_cons, zv, zbit, Int32.ofInt_toInt] at k2
      exact lv_isub hexec hb hd k2
  · split at h
    · rename_i hr
      cases h
      rw [List.forall_mem_cons, List.forall_mem_cons] at hw
      have k2 := kk ls hL (by simpa using ⟨hr, hw.2.2⟩)
      rw [List.map_cons, zv, Int32.ofInt_mul] at k2
      exact lv_imul hexec hb hd k2
    · cases h
      rw [List.forall_mem_cons, List.forall_mem_cons] at hw
      have k2 := kk ls hL (by simpa using ⟨zR_of _, hw.2.2⟩)
      rw [List.map_cons, zv, zbit, Int32.ofInt_toInt] at k2
      exact lv_imul hexec hb hd k2
  -- idiv, irem
  · split at h
    · rename_i hr
      cases h
      rw [List.forall_mem_cons, List.forall_mem_cons] at hw
      have k2 := kk ls hL (by simpa using ⟨hr.2, hw.2.2⟩)
      rw [List.map_cons, zv, ← zI_div hw.2.1 hw.1 hr.2] at k2
      exact lv_idiv hexec hb hd (fun q => hr.1 ((zI_eq hw.1 zR0).mp (q.trans zI_0))) k2
    · cases h
  · split at h
    · rename_i hr
      cases h
      rw [List.forall_mem_cons, List.forall_mem_cons] at hw
      have k2 := kk ls hL (by simpa using ⟨zR_rem hw.1 hr.1, hw.2.2⟩)
      rw [List.map_cons, zv, ← zI_rem hw.2.1 hw.1 hr.2] at k2
      exact lv_irem hexec hb hd (fun q => hr.1 ((zI_eq hw.1 zR0).mp (q.trans zI_0))) k2
    · cases h
  -- ineg
  · split at h
    · rename_i hr
      cases h
      rw [List.forall_mem_cons] at hw
      have k2 := kk ls hL (by simpa using ⟨hr, hw.2⟩)
      rw [List.map_cons, zv, Int32.ofInt_neg] at k2
      exact lv_ineg hexec hb hd k2
    · cases h
  -- iand, ior, ixor, ishl, ishr
  · cases h
    rw [List.forall_mem_cons, List.forall_mem_cons] at hw
    have k2 := kk ls hL (by simpa using ⟨zR_of _, hw.2.2⟩)
    rw [List.map_cons, zv, zbit, Int32.ofInt_toInt] at k2
    exact lv_iand hexec hb hd k2
  · cases h
    rw [List.forall_mem_cons, List.forall_mem_cons] at hw
    have k2 := kk ls hL (by simpa using ⟨zR_of _, hw.2.2⟩)
    rw [List.map_cons, zv, zbit, Int32.ofInt_toInt] at k2
    exact lv_ior hexec hb hd k2
  · cases h
    rw [List.forall_mem_cons, List.forall_mem_cons] at hw
    have k2 := kk ls hL (by simpa using ⟨zR_of _, hw.2.2⟩)
    rw [List.map_cons, zv, zbit, Int32.ofInt_toInt] at k2
    exact lv_ixor hexec hb hd k2
  · cases h
    rw [List.forall_mem_cons, List.forall_mem_cons] at hw
    have k2 := kk ls hL (by simpa using ⟨zR_of _, hw.2.2⟩)
    rw [List.map_cons, zv, zbit, Int32.ofInt_toInt] at k2
    exact lv_ishl hexec hb hd k2
  · cases h
    rw [List.forall_mem_cons, List.forall_mem_cons] at hw
    have k2 := kk ls hL (by simpa using ⟨zR_of _, hw.2.2⟩)
    rw [List.map_cons, zv, zbit, Int32.ofInt_toInt] at k2
    exact lv_ishr hexec hb hd k2
  -- iushr
  · cases h
    rw [List.forall_mem_cons, List.forall_mem_cons] at hw
    have k2 := kk ls hL (by simpa using ⟨zR_of _, hw.2.2⟩)
    rw [List.map_cons, zv, zbit, Int32.ofInt_toInt] at k2
    exact lv_iushr hexec hb hd rfl k2
  -- i2b, i2c
  · split at h
    · rename_i hr
      cases h
      rw [List.forall_mem_cons] at hw
      have k2 := kk ls hL (by simpa using hw)
      refine lv_i2b hexec hb hd (zI_ext hw.1 ?_) k2
      rw [Int8.toInt_toInt32, Int32.toInt_toInt8, zI_toInt hw.1]
      exact Int.bmod_eq_of_le (by omega) (by omega)
    · cases h
  · split at h
    · rename_i x9 _ hr
      cases h
      rw [List.forall_mem_cons] at hw
      have k2 := kk ls hL (by simpa using hw)
      refine lv_i2c hexec hb hd ?_ k2
      obtain ⟨n, rfl⟩ := Int.eq_ofNat_of_zero_le hr.1
      have e9 : nI n = Int32.ofInt (n : Int) := zI_ext ⟨by omega, by omega⟩ (nI_toInt (by omega))
      rw [← e9, pk_char, pk_tn (by omega), Nat.mod_eq_of_lt (by omega)]
    · cases h
  -- iinc
  · split at h
    · rename_i z hz
      split at h
      · rename_i hr
        cases h
        have hi := (List.getElem?_eq_some_iff.mp hz).1
        have hg := hL.2.2 _ _ hz
        obtain ⟨k9, hk9⟩ := List.getElem?_of_mem (zprs_mem.mpr ⟨_, hz, rfl⟩)
        refine lv_iinc hexec hb hd hL.has hk9 rfl hi rfl fun ls' h' => ?_
        refine kk ls' (hL.put (v := .inl _) hr hi ?_) hw
        rw [zv, Int32.ofInt_add]
        exact h'
      · cases h
    · cases h
  · cases h
theorem zB_ok {bs : ByteArray} (hexec : p.tables.exec = Jvm.exec) (hb : c.code = bs) {ins : Instr} {len pc pc' : Nat} {st st' : List zV} {ls : Array Slot} (h : zB ins len pc st = some (pc', st')) (hd : decode bs pc = .ok (ins, len)) (hw : ∀ v ∈ st, zw v)
    (kk : (∀ v ∈ st', zw v) → W p l e R s m args below meth c H locs cells slots Q (F0 m pc' ls (st'.map zv))) : W p l e R s m args below meth c H locs cells slots Q (F0 m pc ls (st.map zv)) := by
  have ht : ∀ {off : Int} {t : Nat}, ztgt pc off = some t → (pc : Int) + off = (t : Int) := fun h => by
    unfold ztgt at h
    split at h
    · cases h; omega
    · cases h
  unfold zB at h
  split at h
  -- goto
  · obtain ⟨t, h1, h2⟩ := Option.map_eq_some_iff.mp h
    cases h2
    exact lv_goto hexec hb hd (ht h1) (kk hw)
  -- ifCond
  · rename_i cd off x st0
    obtain ⟨t, h1, h2⟩ := Option.map_eq_some_iff.mp h
    cases h2
    rw [List.forall_mem_cons] at hw
    have k2 := kk hw.2
    have hx : zR x := hw.1
    cases cd
    · refine lv_if_eq hexec hb hd (ht h1) (fun q => ?_) (fun q => ?_) <;> rw [zI_0, zI_eq hx zR0] at q <;> simpa [zcond, q] using k2
    · refine lv_if_ne hexec hb hd (ht h1) (fun q => ?_) (fun q => ?_) <;> rw [zI_0] at q <;> simp only [ne_eq, zI_eq hx zR0] at q <;> simpa [zcond, q] using k2
    · refine lv_if_lt hexec hb hd (ht h1) (fun q => ?_) (fun q => ?_) <;> rw [zI_0, zI_lt hx zR0] at q <;> simpa [zcond, q] using k2
    · refine lv_if_ge hexec hb hd (ht h1) (fun q => ?_) (fun q => ?_) <;> rw [zI_0, zI_le zR0 hx] at q <;> simpa [zcond, q] using k2
    · refine lv_if_gt hexec hb hd (ht h1) (fun q => ?_) (fun q => ?_) <;> rw [zI_0, zI_lt zR0 hx] at q <;> simpa [zcond, q] using k2
    · refine lv_if_le hexec hb hd (ht h1) (fun q => ?_) (fun q => ?_) <;> rw [zI_0, zI_le hx zR0] at q <;> simpa [zcond, q] using k2
  -- if_icmp
  · rename_i cd off y x st0
    obtain ⟨t, h1, h2⟩ := Option.map_eq_some_iff.mp h
    cases h2
    rw [List.forall_mem_cons, List.forall_mem_cons] at hw
    have k2 := kk hw.2.2
    have hx : zR x := hw.2.1
    have hy : zR y := hw.1
    cases cd
    · refine lv_icmp_eq hexec hb hd (ht h1) (fun q => ?_) (fun q => ?_) <;> rw [zI_eq hx hy] at q <;> simpa [zcond, q] using k2
    · refine lv_icmp_ne hexec hb hd (ht h1) (fun q => ?_) (fun q => ?_) <;> simp only [ne_eq, zI_eq hx hy] at q <;> simpa [zcond, q] using k2
    · refine lv_icmp_lt hexec hb hd (ht h1) (fun q => ?_) (fun q => ?_) <;> rw [zI_lt hx hy] at q <;> simpa [zcond, q] using k2
    · refine lv_icmp_ge hexec hb hd (ht h1) (fun q => ?_) (fun q => ?_) <;> rw [zI_le hy hx] at q <;> simpa [zcond, q] using k2
    · refine lv_icmp_gt hexec hb hd (ht h1) (fun q => ?_) (fun q => ?_) <;> rw [zI_lt hy hx] at q <;> simpa [zcond, q] using k2
    · refine lv_icmp_le hexec hb hd (ht h1) (fun q => ?_) (fun q => ?_) <;> rw [zI_le hx hy] at q <;> simpa [zcond, q] using k2
  -- ifnull
  · rename_i off r st0
    obtain ⟨t, h1, h2⟩ := Option.map_eq_some_iff.mp h
    cases h2
    rw [List.forall_mem_cons] at hw
    have k2 := kk hw.2
    cases r with
    | none => exact lv_ifnullN hexec hb hd (ht h1) k2
    | some a => exact lv_ifnull hexec hb hd k2
  -- ifnonnull
  · rename_i off r st0
    obtain ⟨t, h1, h2⟩ := Option.map_eq_some_iff.mp h
    cases h2
    rw [List.forall_mem_cons] at hw
    have k2 := kk hw.2
    cases r with
    | none => exact lv_ifnonnullN hexec hb hd k2
    | some a => exact lv_ifnonnull hexec hb hd (ht h1) k2
  -- tableswitch
  · rename_i d lo hi offs _ x st0
    rw [List.forall_mem_cons] at hw
    have hx : zR x := hw.1
    split at h
    · rename_i hq
      obtain ⟨t, h1, h2⟩ := Option.map_eq_some_iff.mp h
      cases h2
      exact lv_tableOut hexec hb hd (by rw [zI_toInt hx]; exact hq) (ht h1) (kk hw.2)
    · rename_i hq
      split at h
      · rename_i off ho
        obtain ⟨t, h1, h2⟩ := Option.map_eq_some_iff.mp h
        cases h2
        exact lv_tableIn hexec hb hd (by rw [zI_toInt hx]; omega) (by rw [zI_toInt hx]; omega) (by rw [zI_toInt hx]; exact ho) (ht h1) (kk hw.2)
      · cases h
  · cases h
end ZSA
