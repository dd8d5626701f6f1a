/-! ===== instructions that read and write the heap, or make cells ===== -/
theorem zcl_at {ci : Nat} (h : ci < 11) : vwCl[ci]? = some ((zcl ci).1, (zcl ci).2.1, (zcl ci).2.2) := by
  rcases (show ci = 0 ∨ ci = 1 ∨ ci = 2 ∨ ci = 3 ∨ ci = 4 ∨ ci = 5 ∨ ci = 6 ∨ ci = 7 ∨ ci = 8 ∨ ci = 9 ∨ ci = 10 by omega) with rfl | rfl | rfl | rfl | rfl | rfl | rfl | rfl | rfl | rfl | rfl <;> rfl
theorem zfit0 : ∀ t : Nat, zfit (zty t) (.inl 0) = true
  | 0 => rfl
  | 1 => rfl
  | _ + 2 => rfl
/-- what a cell of the small machine is in the big one's heap -/
def zce (n0 : Nat) (D : va_G) (s : State) (H : Heap) (a : Nat) : zC → Prop
  | .inl (ci, fs) => ci < 11 ∧ fs.length = (zcl ci).2.2 ∧ (∀ v ∈ fs, zw v) ∧ t_OB a (D.1 ci) (zcl ci).2.2 (D.2 ci) H (vp_V (fs.map zv))
  | .inr (.inl (t, N, f)) => t < 2 ∧ N < 2 ^ 31 ∧ (∀ j, j < N → zR (f j) ∧ zfit (zty t) (.inl (f j)) = true) ∧
      ((n0 ≤ a ∧ ∃ cA, H[a]? = some (arrV cA N (fun j => .int (Int32.ofInt (f j)))) ∧ ArrOfT s cA (zty t)) ∨
       (a < n0 ∧ ∃ cell : Cell, H[a]? = some cell ∧ s.isArrayOf cell (zty t) ∧ cell.vm ≠ .unknown ∧ N ≤ cell.slots.size ∧ cell.slots.size.toInt32 = Int32.ofNat N ∧ ∀ j, j < N → cell.slots[j]? = some (.int (Int32.ofInt (f j)))))
  | .inr (.inr (t, N, f)) => N < 2 ^ 31 ∧ ∃ cA, H[a]? = some (arrV cA N (fun j => va_rf (f j))) ∧ ArrOfT s cA (zrt t) ∧ va_RA s cA (zrt t)
theorem zce.kept {n0 : Nat} {D : va_G} {s : State} {H H1 : Heap} {a : Nat} {e : zC} (h : zce n0 D s H a e) (hq : H1[a]? = H[a]?) : zce n0 D s H1 a e := by
  rcases e with ⟨ci, fs⟩ | ⟨t, N, f⟩ | ⟨t, N, f⟩
  · exact ⟨h.1, h.2.1, h.2.2.1, h.2.2.2.kept hq⟩
  · obtain ⟨h1, h2, h3, h4⟩ := h
    refine ⟨h1, h2, h3, ?_⟩
    rcases h4 with ⟨h5, cA, h6, h7⟩ | ⟨h5, cell, h6, h7⟩
    · exact Or.inl ⟨h5, cA, hq.trans h6, h7⟩
    · exact Or.inr ⟨h5, cell, hq.trans h6, h7⟩
  · obtain ⟨h1, cA, h2, h3⟩ := h
    exact ⟨h1, cA, hq.trans h2, h3⟩
theorem zce.moved {n0 : Nat} {D : va_G} {s U : State} {H : Heap} {a : Nat} {e : zC} (hvm : s.vm.Alike U.vm) (h : zce n0 D s H a e) : zce n0 D U H a e := by
  rcases e with ⟨ci, fs⟩ | ⟨t, N, f⟩ | ⟨t, N, f⟩
  · exact h
  · obtain ⟨h1, h2, h3, h4⟩ := h
    refine ⟨h1, h2, h3, ?_⟩
    rcases h4 with ⟨h5, cA, h6, h7⟩ | ⟨h5, cell, h6, h7, h8⟩
    · exact Or.inl ⟨h5, cA, h6, arrOfT_moved hvm h7⟩
    · exact Or.inr ⟨h5, cell, h6, State.isArrayOf_alike hvm h7, h8⟩
  · obtain ⟨h1, cA, h2, h3, h4⟩ := h
    exact ⟨h1, cA, h2, arrOfT_moved hvm h3, h4.moved hvm⟩
theorem zce.lt {n0 : Nat} {D : va_G} {s : State} {H : Heap} {a : Nat} {e : zC} (h : zce n0 D s H a e) : a < H.size := by
  rcases e with ⟨ci, fs⟩ | ⟨t, N, f⟩ | ⟨t, N, f⟩
  · obtain ⟨-, -, -, cell, h1, -⟩ := h
    exact (Array.getElem?_eq_some_iff.mp h1).1
  · rcases h.2.2.2 with ⟨-, cA, h6, -⟩ | ⟨-, cell, h6, -⟩ <;> exact (Array.getElem?_eq_some_iff.mp h6).1
  · obtain ⟨-, cA, h2, -⟩ := h
    exact (Array.getElem?_eq_some_iff.mp h2).1
/-- an array of ints, read -/
theorem zce.rd {n0 : Nat} {D : va_G} {s : State} {H : Heap} {a t N : Nat} {f : Nat → Int} (h : zce n0 D s H a (.inr (.inl (t, N, f)))) :
    ∃ cell : Cell, H[a]? = some cell ∧ s.isArrayOf cell (zty t) ∧ cell.vm ≠ .unknown ∧ N ≤ cell.slots.size ∧ cell.slots.size.toInt32 = Int32.ofNat N ∧ ∀ j, j < N → cell.slots[j]? = some (.int (Int32.ofInt (f j))) := by
  rcases h.2.2.2 with ⟨-, cA, h6, h7⟩ | ⟨-, h6⟩
  · exact ⟨_, h6, h7 _ _, (fun q => by cases q), by rw [arrV_size]; exact Nat.le_refl _, by rw [arrV_size], fun j hj => arrV_read cA _ hj⟩
  · exact h6
def zP (n0 : Nat) (D : va_G) (s : State) (H : Heap) (h : Nat → Option zC) : Prop := ∀ (a : Nat) (e : zC), h a = some e → zce n0 D s H a e
theorem zP.moved {n0 : Nat} {D : va_G} {s U : State} {H : Heap} {h : Nat → Option zC} (hvm : s.vm.Alike U.vm) (hP : zP n0 D s H h) : zP n0 D U H h := fun a e ha => (hP a e ha).moved hvm
theorem zP.upd {n0 : Nat} {D : va_G} {s : State} {H H1 : Heap} {h : Nat → Option zC} {a : Nat} {e : zC} (hP : zP n0 D s H h) (oq : ∀ q : Nat, q ≠ a → q < H.size → H1[q]? = H[q]?) (he : zce n0 D s H1 a e) : zP n0 D s H1 (zup h a e) := by
  intro q x hq
  unfold zup at hq
  split at hq
  · rename_i hqa
    cases hq
    rw [hqa]; exact he
  · rename_i hqa
    have h1 := hP q x hq
    exact h1.kept (oq q hqa h1.lt)
/-- what a launch gives: classes, words of nests and arrays of references, statics -/
def zarrw : List Cond := [.arrayOver (.object RX0), .arrayOver (.object RX7), .arrayOver (.object RX8), .arrayOver (.array .int)]
def KK (n0 : Nat) (D : va_G) (g : Nat → zV) (s : State) : Prop := va_K D vwCl [] s ∧ (∀ w ∈ zNw, va_Nw w s) ∧ (∀ w ∈ zarrw, va_Nw w s) ∧ ∀ j, j < 2 → va_Z (zsn j).1 (zsn j).2.1 (zsn j).2.2 (zv (g j)) (fun q => n0 ≤ q) s s.heap ∧ zw (g j)
/-- what is fixed while a method runs -/
def zFx (p : Program) (m : MethodId) (c : Code) (meth : Method) (M : zM) (s : State) (args : Array Value) : Prop :=
  p.tables.exec = Jvm.exec ∧ c.code = M.1 ∧ c.maxLocals = M.2.1 ∧ s.vm.findClass (zcn M.2.2.1) = some m.cls ∧ (∀ w ∈ zT, w.before args s = true) ∧ meth.sig.returnType = M.2.2.2.2.2.2.2 ∧ meth.locks = false ∧ (M.2.2.2.1 = true → meth.name = "<init>")
theorem zAO_arr {ty : FieldType} {u U : State} (hvm : u.vm.Alike U.vm) (h : va_Nw (.arrayOver ty) u) (h2 : ∃ C, ty = .object C) : va_Nw (.arrayOver ty) U := by
  obtain ⟨C, rfl⟩ := h2
  exact va_AO.moved hvm h
theorem vp_V_map {fs : List zV} {k : Nat} {v : zV} (h : fs[k]? = some v) : (fs.map zv)[k]? = some (zv v) := by rw [List.getElem?_map, h]; rfl
theorem zfit_ok {ty : FieldType} {v : zV} (hv : zw v) (h : zfit ty v = true) : narrow ty (zv v) = zv v ∧ fits ty (zv v) = true := by
  rcases v with z | r
  · cases ty <;> simp only [zfit, Bool.false_eq_true] at h
    · have hz := of_decide_eq_true h
      have e : (Int32.ofInt z).toInt8.toInt32 = Int32.ofInt z := by
        refine zI_ext hv ?_
        rw [Int8.toInt_toInt32, Int32.toInt_toInt8, zI_toInt hv]
        exact Int.bmod_eq_of_le (by omega) (by omega)
      constructor
      · show Value.int _ = _
        exact congrArg Value.int e
      · have := pk_fb (Int32.ofInt z)
        rw [e] at this
        exact this
    · have hz := of_decide_eq_true h
      obtain ⟨q, rfl⟩ := Int.eq_ofNat_of_zero_le hz.1
      have e9 : nI q = Int32.ofInt (q : Int) := zI_ext hv (nI_toInt (by omega))
      have := pk_charN (q := q) (by omega)
      rw [e9] at this
      exact this
    · exact ⟨rfl, rfl⟩
    · have hz := of_decide_eq_true h
      rcases hz with rfl | rfl <;> exact ⟨rfl, rfl⟩
  · cases ty <;> simp only [zfit, Bool.false_eq_true] at h <;> cases r <;> exact ⟨rfl, rfl⟩
theorem zdf_w (ty : FieldType) : zw (zdf ty) := by cases ty <;> first | exact zR0 | exact trivial
theorem zdf_v (ty : FieldType) (h : zfit ty (zdf ty) = true ∨ True) : (∃ z, ty = z ∧ (z = .long ∨ z = .float ∨ z = .double)) ∨ defaultValue ty = zv (zdf ty) := by
  cases ty <;> first | exact Or.inr rfl | exact Or.inl ⟨_, rfl, by simp⟩
theorem zfty_ok : ∀ ci < 11, ∀ k < (zcl ci).2.2, zfty ci k ≠ .long ∧ zfty ci k ≠ .float ∧ zfty ci k ≠ .double := by decide +kernel
theorem zouter (c : ClassId) (N h0 : Nat) : ∀ i : Nat, Jvm.Free.Multi.outerC c N h0 i = arrV c N (fun j => va_rf (if j < i then some (h0 + 1 + j) else none))
  | 0 => by
    show ({ cls := c, slots := Array.replicate N .null, vm := .none } : Cell) = _
    rw [arrV_new]
    refine congrArg (arrV c N) (funext fun j => ?_)
    simp [va_rf]
  | i + 1 => by
    show (Jvm.Free.Multi.outerC c N h0 i).setSlot i (.ref (h0 + 1 + i)) = _
    rw [zouter c N h0 i, arrV_store]
    refine congrArg (arrV c N) (funext fun j => ?_)
    by_cases e : j = i
    · subst e
      simp [updV, va_rf]
    · by_cases h : j < i
      · simp [updV, e, h, Nat.lt_succ_of_lt h]
      · simp [updV, e, h, show ¬ j < i + 1 by omega]
section ZSD
variable {p : Program} {l : Launch} {e : Env} {R : Room} {s : State} {m : MethodId} {args : Array Value} {below : List Frame} {meth : Method} {c : Code} {H : Heap} {locs : List Loc} {cells slots : Nat} {Q : State → Prop}
theorem zvp_in {i : Int} {N : Nat} {M : Nat} (h0 : 0 ≤ i) (h1 : i < (N : Int)) (hN : N < 2 ^ 31) (hM : N ≤ M) : ¬ (Int32.ofInt i < 0 ∨ M ≤ (Int32.ofInt i).toNatClampNeg) := by
  obtain ⟨a, b⟩ := zI_idx h0 h1 hN
  rw [a]
  intro q
  rcases q with q | q
  · exact b q
  · omega
theorem zstore_i {a N t k : Nat} {cA : ClassId} {f : Nat → Int} {x : Int} {H1 : Heap} (h : H1[a]? = some ((arrV cA N (fun j => .int (Int32.ofInt (f j)))).setSlot k (.int (Int32.ofInt x)))) : H1[a]? = some (arrV cA N (fun j => .int (Int32.ofInt (zfu f k x j)))) := by
  rw [h, arrV_store]
  congr 2
  funext j
  by_cases hj : j = k <;> simp [updV, zfu, hj]
theorem zstore_r {a N k : Nat} {cA : ClassId} {f : Nat → Option Nat} {b : Nat} {H1 : Heap} (h : H1[a]? = some ((arrV cA N (fun j => va_rf (f j))).setSlot k (.ref b))) : H1[a]? = some (arrV cA N (fun j => va_rf (zfu f k (some b) j))) := by
  rw [h, arrV_store]
  congr 2
  funext j
  by_cases hj : j = k <;> simp [updV, zfu, hj, va_rf]
set_option maxHeartbeats 8000000 in
theorem zD_ok {n0 : Nat} {D : va_G} {g : Nat → zV} {M : zM} (F : zFx p m c meth M s args) (KS : KK n0 D g s) {ins : Instr} {len pc : Nat} {st st' : List zV} {σ σ' : zS} {ls : Array Slot} (h : zD n0 g zkf zks zkk zkc ins len M st σ = some (st', σ')) (hd : decode M.1 pc = .ok (ins, len)) (hw : ∀ v ∈ st, zw v)
    (hP : zP n0 D s H σ.2.2) (hz : H.size = σ.1) (hS : va_S (fun q => n0 ≤ q) s.heap H locs) (hn0 : n0 ≤ s.heap.size) (hR : cells + (σ'.1 - σ.1) ≤ R.cells ∧ slots + (σ'.2.1 - σ.2.1) ≤ R.slots)
    (kk : ∀ (H' : Heap) (locs' : List Loc), H'.size = σ'.1 → zP n0 D s H' σ'.2.2 → va_S (fun q => n0 ≤ q) s.heap H' locs' → (∀ v ∈ st', zw v) → W p l e R s m args below meth c H' locs' (cells + (σ'.1 - σ.1)) (slots + (σ'.2.1 - σ.2.1)) Q (F0 m (pc + len) ls (st'.map zv))) : W p l e R s m args below meth c H locs cells slots Q (F0 m pc ls (st.map zv)) := by
  obtain ⟨hexec, hb, hml, hown, hts, hret, hlk, hin⟩ := F
  obtain ⟨hK, hNw, hAw, hst⟩ := KS
  have sC : ∀ n : Nat, cells + (n - n) = cells := fun n => by omega
  have sK : ∀ n : Nat, slots + (n - n) = slots := fun n => by omega
  unfold zD at h
  split at h
  -- ldc
  · split at h
    · rename_i z hz1
      split at h
      · rename_i hr
        cases h
        have h2 := zkc_w _ (zkc_mem hz1) _ List.mem_cons_self
        have k2 := kk H locs hz hP hS (by simpa using ⟨hr, hw⟩)
        rw [sC, sK] at k2
        exact lv_ldc hexec hb hown (hts _ h2) hd k2
      · cases h
    · cases h
  -- getstatic
  · split at h
    · rename_i i hi
      cases h
      have h2 := zks_w _ (zks_mem hi) _ List.mem_cons_self
      have hi5 := zks_b _ (zks_mem hi)
      obtain ⟨hZ, hwi⟩ := hst i hi5
      have k2 := kk H locs hz hP hS (by simpa using ⟨hwi, hw⟩)
      rw [sC, sK] at k2
      exact va_gets hexec hb hZ hS hown (hts _ h2) (fun x hx => hx) hd k2
    · cases h
  -- getfield
  · split at h
    · rename_i ci k cj fs hf ha
      split at h
      · rename_i hc
        subst hc
        split at h
        · rename_i v hv
          cases h
          have h2 := zkf_w _ (zkf_mem hf) _ List.mem_cons_self
          obtain ⟨h12, hk⟩ := zkf_b _ (zkf_mem hf)
          obtain ⟨-, hlen, hwf, hOB⟩ := hP _ _ ha
          have hcl := zcl_w ci (List.mem_range.mpr h12)
          rw [List.forall_mem_cons] at hw
          have k2 := kk H locs hz hP hS (by simpa using ⟨hwf v (List.mem_of_getElem? hv), hw.2⟩)
          rw [sC, sK] at k2
          refine va_get (D := D) (cl := vwCl) (tys := []) (ci := ci) (C := (zcl ci).1) (T := (zcl ci).2.1) (N := (zcl ci).2.2) (ws := [(_, .inr (ci, fs.map zv))]) hexec hb hts (fun w hw9 => hcl w (List.mem_cons_of_mem _ (List.mem_cons_of_mem _ hw9))) hown hK ?_ 0 rfl (zcl_at h12) k hk (hts _ h2) (fun x hx => hx) (vp_V_map hv) hd k2
          intro k9 q9 hq9
          have : k9 = 0 := by
            have := (List.getElem?_eq_some_iff.mp hq9).1
            simpa using this
          subst this
          cases hq9
          exact ⟨_, zcl_at h12, hOB⟩
        · cases h
      · cases h
    · cases h
  -- putfield
  · rename_i idx v a st0
    split at h
    · rename_i ci k cj fs hf ha
      split at h
      · rename_i hc
        obtain ⟨hc, hkl, hna, hfit, hfin⟩ := hc
        subst hc
        cases h
        have h2 := zkf_w _ (zkf_mem hf) _ List.mem_cons_self
        obtain ⟨h12, hk⟩ := zkf_b _ (zkf_mem hf)
        obtain ⟨-, hlen, hwf, cell, q1, q2, q3, q4⟩ := hP _ _ ha
        have hcl := zcl_w ci (List.mem_range.mpr h12)
        have hcl2 : ∀ w ∈ u_ws (zcl ci).1 (zcl ci).2.1 (zcl ci).2.2, w ∈ zT := fun w hw9 => hcl w (List.mem_cons_of_mem _ (List.mem_cons_of_mem _ hw9))
        rw [List.forall_mem_cons, List.forall_mem_cons] at hw
        have hap := va_apart (own := zcn M.2.2.1) hts hcl2 (zfty ci) (fun k9 hk9 => zcl_ty ci h12 k9 hk9) (fun a9 ha9 b9 hb9 => zcl_nm ci h12 a9 ha9 b9 hb9) hK (zcl_at h12)
        obtain ⟨hSl, hfc, kC, hkC, hkind⟩ := hK.1 ci _ (zcl_at h12)
        obtain ⟨cf, kf, fi, f, hi, hsl⟩ := hSl k hk
        have hlay := hts _ (hcl2 _ (u_in_lay hk))
        have hst9 := (u_facts hfc hkC (u_lays hts hcl2 hk) hi).1
        obtain ⟨hnr, hft⟩ := zfit_ok hw.1 hfit
        have kk3 : ∀ (H' : Heap), H'[a]? = some (cell.setSlot ((D.2 ci) k) (zv v)) → H'.size = H.size → (∀ q, q ≠ a → H'[q]? = H[q]?) → W p l e R s m args below meth c H' (locs ++ [⟨a, (D.2 ci) k⟩]) cells slots Q (F0 m (pc + 3) ls (st'.map zv)) := by
          intro H' e1 e2 e3
          have k2 := kk H' (locs ++ [⟨a, (D.2 ci) k⟩]) (e2.trans hz) (hP.upd (fun q hq _ => e3 q hq) ⟨h12, by rw [List.length_set]; exact hlen, fun x hx => by
            rcases List.mem_or_eq_of_mem_set hx with h9 | h9
            · exact hwf x h9
            · rw [h9]; exact hw.1, t_OB.to (V := updV (vp_V (fs.map zv)) k (zv v)) ⟨_, e1, q2, q3, t_set q4 hap hk (zv v)⟩ (fun j _ => by
            rw [List.map_set]
            exact vp_updV_set (by rw [List.length_map]; exact hkl) (zv v) j)⟩) (hS.put e2 e3 hna) hw.2.2
          rw [sC, sK] at k2
          exact k2
        by_cases hfn : zfin ci k = true
        · obtain ⟨hini, hdecl⟩ := hfin hfn
          unfold u_lay at hlay
          rw [if_pos (show ((zcl ci).2.1 k).2.2.2 = true from hfn)] at hlay
          have hcf : m.cls = cf := by
            obtain ⟨_, _, c', _, _, _, -, -, hf', -, -, -, hown2, -⟩ := Cond.laysFinal_spec hlay
            have e1 : c' = cf := by have := hi.symm.trans hf'; simp at this; exact this.1.symm
            rw [hdecl] at hown2
            rw [← e1]; exact Option.some.inj (hown.symm.trans hown2)
          have h6 := u_fits hfc hkC hkind (Or.inr hlay) hi (zcl_ty ci h12 k hk) hnr hft
          refine W.putFinK hexec hb hown (hts _ h2) hi hst9 hcf (hin hini) (by rw [q2]; exact h6) q1 q3 (by rw [hsl]; exact k2_hasslot (q4 k hk)) rfl rfl hd fun H' e1 e2 e3 => ?_
          rw [hsl] at e1 ⊢
          exact kk3 H' e1 e2 e3
        · unfold u_lay at hlay
          rw [if_neg (show ¬ ((zcl ci).2.1 k).2.2.2 = true from hfn)] at hlay
          have h6 := u_store hfc hkC hkind hlay hi (zcl_ty ci h12 k hk) hnr hft
          refine W.putK hexec hb (f := f) ⟨hown, hts _ h2, ⟨_, _, _, hi⟩, hst9⟩ (by rw [q2]; exact h6) q1 q3 (by rw [hsl]; exact k2_hasslot (q4 k hk)) rfl rfl hd fun H' e1 e2 e3 => ?_
          rw [hsl] at e1 ⊢
          exact kk3 H' e1 e2 e3
      · cases h
    · cases h
  -- arraylength
  · rename_i a st0
    rw [List.forall_mem_cons] at hw
    split at h
    · rename_i t N f ha
      cases h
      obtain ⟨cell, g1, g2, g3, g4, g5, g6⟩ := (hP _ _ ha).rd
      have hN := (hP _ _ ha).2.1
      have hr : zR (N : Int) := ⟨by omega, by omega⟩
      have k2 := kk H locs hz hP hS (by simpa using ⟨hr, hw.2⟩)
      rw [sC, sK] at k2
      exact W.alen (n := Int32.ofInt (N : Int)) hexec hb g1 g2 (by rw [g5]; exact zI_ext hr (nI_toInt hN)) rfl rfl hd k2
    · rename_i t N f ha
      cases h
      obtain ⟨hN, cA, g1, g2, -⟩ := hP _ _ ha
      have hr : zR (N : Int) := ⟨by omega, by omega⟩
      have k2 := kk H locs hz hP hS (by simpa using ⟨hr, hw.2⟩)
      rw [sC, sK] at k2
      exact W.alen (n := Int32.ofInt (N : Int)) hexec hb g1 (g2 _ _) (by rw [arrV_size]; exact zI_ext hr (nI_toInt hN)) rfl rfl hd k2
    · cases h
  -- iaload
  · rename_i i a st0
    rw [List.forall_mem_cons, List.forall_mem_cons] at hw
    split at h
    · rename_i t N f ha
      split at h
      · rename_i hc
        obtain ⟨ht, h0, h1⟩ := hc
        subst ht
        cases h
        obtain ⟨-, hN, hf, -⟩ := hP _ _ ha
        obtain ⟨cell, g1, g2, g3, g4, g5, g6⟩ := (hP _ _ ha).rd
        have k2 := kk H locs hz hP hS (by simpa using ⟨(hf i.toNat (by omega)).1, hw.2.2⟩)
        rw [sC, sK] at k2
        exact W.iald hexec hb g1 g2 g3 (zvp_in h0 h1 hN g4) (by rw [(zI_idx h0 h1 hN).1]; exact g6 _ (by omega)) rfl rfl hd k2
      · cases h
    · cases h
  -- baload
  · rename_i i a st0
    rw [List.forall_mem_cons, List.forall_mem_cons] at hw
    split at h
    · rename_i t N f ha
      split at h
      · rename_i hc
        obtain ⟨ht, h0, h1⟩ := hc
        cases h
        obtain ⟨-, hN, hf, -⟩ := hP _ _ ha
        obtain ⟨cell, g1, g2, g3, g4, g5, g6⟩ := (hP _ _ ha).rd
        have k2 := kk H locs hz hP hS (by simpa using ⟨(hf i.toNat (by omega)).1, hw.2.2⟩)
        rw [sC, sK] at k2
        rcases ht with rfl | rfl
        · exact W.bald hexec hb g1 g2 g3 (zvp_in h0 h1 hN g4) (by rw [(zI_idx h0 h1 hN).1]; exact g6 _ (by omega)) rfl rfl hd k2
        · exact W.zald hexec hb g1 g2 g3 (zvp_in h0 h1 hN g4) (by rw [(zI_idx h0 h1 hN).1]; exact g6 _ (by omega)) rfl rfl hd k2
      · cases h
    · cases h
  -- aaload
  · rename_i i a st0
    rw [List.forall_mem_cons, List.forall_mem_cons] at hw
    split at h
    · rename_i t N f ha
      split at h
      · rename_i hc
        obtain ⟨h0, h1⟩ := hc
        cases h
        obtain ⟨hN, cA, g1, g2, -⟩ := hP _ _ ha
        have k2 := kk H locs hz hP hS (by simpa [zw] using hw.2.2)
        rw [sC, sK, List.map_cons, ← zv_rf] at k2
        exact W.aald (ty := zrt t) hexec hb g1 (g2 _ _) (by unfold zrt; split <;> rfl) (fun q => by cases q) (zvp_in h0 h1 hN (by rw [arrV_size]; exact Nat.le_refl _)) (by rw [(zI_idx h0 h1 hN).1]; exact arrV_read _ _ (by omega)) rfl rfl hd k2
      · cases h
    · cases h
  -- iastore
  · rename_i x i a st0
    rw [List.forall_mem_cons, List.forall_mem_cons, List.forall_mem_cons] at hw
    split at h
    · rename_i t N f ha
      split at h
      · rename_i hc
        obtain ⟨ht, h0, h1, hna⟩ := hc
        subst ht
        cases h
        obtain ⟨h3, hN, hf, h4⟩ := hP _ _ ha
        rcases h4 with ⟨-, cA, g1, g2⟩ | ⟨h9, -⟩
        · refine W.iast hexec hb g1 (g2 _ _) (fun q => by cases q) (zvp_in h0 h1 hN (by rw [arrV_size]; exact Nat.le_refl _)) rfl rfl hd fun H1 e1 z1 o1 => ?_
          rw [(zI_idx h0 h1 hN).1] at e1 ⊢
          have k2 := kk H1 (locs ++ [⟨a, i.toNat⟩]) (z1.trans hz) (hP.upd (fun q hq _ => o1 q hq) ⟨h3, hN, fun j hj => by
            unfold zfu
            split
            · exact ⟨hw.1, rfl⟩
            · exact hf j hj, Or.inl ⟨hna, cA, zstore_i (t := 0) e1, g2⟩⟩) (hS.put z1 o1 hna) hw.2.2.2
          rw [sC, sK] at k2
          exact k2
        · omega
      · cases h
    · cases h
  -- bastore
  · rename_i x i a st0
    rw [List.forall_mem_cons, List.forall_mem_cons, List.forall_mem_cons] at hw
    split at h
    · rename_i t N f ha
      split at h
      · rename_i hc
        obtain ⟨ht, h0, h1, hna, hfit⟩ := hc
        cases h
        obtain ⟨h3, hN, hf, h4⟩ := hP _ _ ha
        obtain ⟨hnr, hft⟩ := zfit_ok (v := .inl x) hw.1 hfit
        rcases h4 with ⟨-, cA, g1, g2⟩ | ⟨h9, -⟩
        · have fin : ∀ H1 : Heap, H1[a]? = some ((arrV cA N (fun j => .int (Int32.ofInt (f j)))).setSlot i.toNat (.int (Int32.ofInt x))) → H1.size = H.size → (∀ q, q ≠ a → H1[q]? = H[q]?) → W p l e R s m args below meth c H1 (locs ++ [⟨a, i.toNat⟩]) cells slots Q (F0 m (pc + 1) ls (st'.map zv)) := by
            intro H1 e1 z1 o1
            have k2 := kk H1 (locs ++ [⟨a, i.toNat⟩]) (z1.trans hz) (hP.upd (fun q hq _ => o1 q hq) ⟨h3, hN, fun j hj => by
              unfold zfu
              split
              · exact ⟨hw.1, hfit⟩
              · exact hf j hj, Or.inl ⟨hna, cA, zstore_i (t := t) e1, g2⟩⟩) (hS.put z1 o1 hna) hw.2.2.2
            rw [sC, sK] at k2
            exact k2
          rcases ht with rfl | rfl
          · refine W.bast hexec hb g1 (g2 _ _) (fun q => by cases q) (zvp_in h0 h1 hN (by rw [arrV_size]; exact Nat.le_refl _)) rfl rfl hd fun H1 e1 z1 o1 => ?_
            rw [(zI_idx h0 h1 hN).1] at e1 ⊢
            exact fin H1 (by rw [e1]; exact congrArg some (congrArg _ hnr)) z1 o1
          · refine W.zast hexec hb g1 (g2 _ _) (fun q => by cases q) (zvp_in h0 h1 hN (by rw [arrV_size]; exact Nat.le_refl _)) rfl rfl hd fun H1 e1 z1 o1 => ?_
            rw [(zI_idx h0 h1 hN).1] at e1 ⊢
            exact fin H1 (by rw [e1]; exact congrArg some (congrArg _ hnr)) z1 o1
        · omega
      · cases h
    · cases h
  -- aastore
  · rename_i b i a st0
    rw [List.forall_mem_cons, List.forall_mem_cons, List.forall_mem_cons] at hw
    split at h
    · rename_i t N f cj fs ha hb9
      split at h
      · rename_i hc
        obtain ⟨ht, h12, h0, h1, hna⟩ := hc
        subst ht
        cases h
        obtain ⟨hN, cA, g1, g2, g3⟩ := hP _ _ ha
        obtain ⟨-, -, -, cellV, v1, v2, v3, -⟩ := hP _ _ hb9
        have hcls := (hK.1 t _ (zcl_at h12)).2
        have hzr : zrt t = .object (zcl t).1 := by
          unfold zrt zcl
          rw [if_neg (by omega)]
        rw [hzr] at g2 g3
        obtain ⟨kA, comp, k1, k2, k3, -⟩ := g3
        have hcomp : comp = D.1 t := Option.some.inj (k3.symm.trans hcls.1)
        subst hcomp
        obtain ⟨kC, hkC, -⟩ := hcls.2
        refine W.aast hexec hb g1 (fun q h => by cases h) (fun h => by cases h) k1 k2 rfl hkC ⟨(zI_idx h0 h1 hN).2, by rw [arrV_size, (zI_idx h0 h1 hN).1]; omega⟩ v1 (fun q h => by rw [v3] at h; cases h) (by rw [v2]; exact hkC) (by rw [v2]; exact va_assign hcls) rfl rfl hd fun H1 e1 z1 o1 => ?_
        rw [(zI_idx h0 h1 hN).1] at e1 ⊢
        have k2 := kk H1 (locs ++ [⟨a, i.toNat⟩]) (z1.trans hz) (hP.upd (fun q hq _ => o1 q hq) ⟨hN, cA, zstore_r e1, by rw [hzr]; exact ⟨g2, _, _, k1, k2, k3, (hP _ _ ha).2.choose_spec.2.2 |> fun _ => by
          obtain ⟨-, cA9, g19, -, g39⟩ := hP _ _ ha
          rw [hzr] at g39
          obtain ⟨kA9, comp9, -, -, -, k49⟩ := g39
          have : cA9 = cA := by
            have := g19.symm.trans g1
            exact congrArg (fun o : Option Cell => (o.map Cell.cls).getD 0) this
          rw [← this]; exact k49⟩⟩) (hS.put z1 o1 hna) hw.2.2.2
        rw [sC, sK] at k2
        exact k2
      · cases h
    · cases h
  -- new
  · rename_i idx
    split at h
    · rename_i ci hc
      split at h
      · rename_i h12
        cases h
        have h2 := zkk_w _ (zkk_mem hc) (.classLink (zcn M.2.2.1) idx (zcl ci).1) (by unfold kkw; rw [if_neg (by omega)]; exact List.mem_cons_self)
        have hcl := zcl_w ci (List.mem_range.mpr h12)
        have hcl2 : ∀ w ∈ u_ws (zcl ci).1 (zcl ci).2.1 (zcl ci).2.2, w ∈ zT := fun w hw9 => hcl w (List.mem_cons_of_mem _ (List.mem_cons_of_mem _ hw9))
        have hKn := hK.1 ci _ (zcl_at h12)
        have e1 : σ.1 + 1 - σ.1 = 1 := by omega
        have e2 : σ.2.1 + (zcl ci).2.2 - σ.2.1 = (zcl ci).2.2 := by omega
        dsimp only at hR
        rw [e1, e2] at hR
        refine W.newcK hexec hb hown (hts _ h2) (hts _ (hcl _ List.mem_cons_self)) (hts _ (hcl _ (List.mem_cons_of_mem _ List.mem_cons_self))) rfl hd hR.1 hR.2 hKn.2.1 hz fun H1 kC hkC e3 z1 o1 => ?_
        have k2 := kk H1 locs z1 (hP.upd (fun q hq hl => o1 q (by omega)) ⟨h12, by rw [List.length_map, List.length_range], fun v hv => by
          obtain ⟨k9, -, rfl⟩ := List.mem_map.mp hv
          exact zdf_w _, (u_born (zfty ci) hts hcl2 hKn hkC e3 (fun k9 hk9 => zcl_ty ci h12 k9 hk9)).to fun j hj => by
          have h9 := zfty_ok ci h12 j hj
          rcases zdf_v (zfty ci j) (Or.inr trivial) with ⟨z, rfl, h8⟩ | h8
          · rcases h8 with h8 | h8 | h8
            · exact absurd h8 h9.1
            · exact absurd h8 h9.2.1
            · exact absurd h8 h9.2.2
          · rw [h8]
            simp [vp_V, hj]⟩) ⟨Nat.le_trans hS.1 (by omega), fun x h1 h2 => (o1 x (by have := hS.1; omega)).trans (hS.2.1 x h1 h2), hS.2.2⟩ (by simpa [zw] using hw)
        dsimp only at k2
        rw [e1, e2] at k2
        exact k2
      · cases h
    · cases h
  -- newarray
  · rename_i ty N st0
    rw [List.forall_mem_cons] at hw
    split at h
    · rename_i t hc
      split at h
      · rename_i hN
        cases h
        obtain ⟨n9, rfl⟩ := Int.eq_ofNat_of_zero_le hN.1
        have hr : zR (n9 : Int) := hw.1
        have e0 : (Int32.ofInt (n9 : Int)).toNatClampNeg = n9 := by show (Int32.ofInt _).toInt.toNat = _; rw [zI_toInt hr]; rfl
        have hn0' : ¬ Int32.ofInt (n9 : Int) < 0 := by rw [zI_0, zI_lt hr zR0]; omega
        have e1 : σ.1 + 1 - σ.1 = 1 := by omega
        have e2 : σ.2.1 + n9 - σ.2.1 = n9 := by omega
        simp only [Int.toNat_natCast] at kk hR
        rw [e1, e2] at hR
        have hty : zty t = newarray.typeOf ty ∧ t < 2 ∧ defaultValue (newarray.typeOf ty) = .int 0 ∧ componentBytes (newarray.typeOf ty) ≤ 4 := by
          cases ty <;> simp only [zat0, reduceCtorEq, Option.some.injEq] at hc <;> subst hc <;> exact ⟨rfl, by decide, rfl, by decide⟩
        have hb9 : n9 * componentBytes (newarray.typeOf ty) ≤ 536870912 := Nat.le_trans (Nat.mul_le_mul_left n9 hty.2.2.2) (by omega)
        refine va_newaK hexec hb (hts _ (by rw [← hty.1]; exact zarr_w t hty.2.1)) rfl hd rfl hn0' e0 hb9 hR.1 hR.2 hz fun H1 cA e3 z1 o1 hAr hNm => ?_
        have k2 := kk H1 locs z1 (hP.upd (fun q hq hl => o1 q (by omega)) ⟨hty.2.1, by omega, fun j _ => ⟨zR0, zfit0 t⟩, Or.inl ⟨by have := hS.1; omega, cA, by rw [e3, hty.2.2.1]; rfl, by rw [hty.1]; exact hAr⟩⟩) ⟨Nat.le_trans hS.1 (by omega), fun x h1 h2 => (o1 x (by have := hS.1; omega)).trans (hS.2.1 x h1 h2), hS.2.2⟩ (by simpa [zw] using hw.2)
        rw [e1, e2] at k2
        exact k2
      · cases h
    · cases h
  -- anewarray
  · rename_i idx N st0
    rw [List.forall_mem_cons] at hw
    split at h
    · rename_i ci hc
      split at h
      · rename_i hN
        obtain ⟨hci, hN⟩ := hN
        cases h
        obtain ⟨n9, rfl⟩ := Int.eq_ofNat_of_zero_le hN.1
        have hr : zR (n9 : Int) := hw.1
        have e0 : (Int32.ofInt (n9 : Int)).toNatClampNeg = n9 := by show (Int32.ofInt _).toInt.toNat = _; rw [zI_toInt hr]; rfl
        have hn0' : ¬ Int32.ofInt (n9 : Int) < 0 := by rw [zI_0, zI_lt hr zR0]; omega
        have e1 : σ.1 + 1 - σ.1 = 1 := by omega
        have e2 : σ.2.1 + n9 - σ.2.1 = n9 := by omega
        simp only [Int.toNat_natCast] at kk hR
        rw [e1, e2] at hR
        have h2 := zkk_w _ (zkk_mem hc) (.classLink (zcn M.2.2.1) idx (zcl ci).1) (by unfold kkw; rw [if_neg (show ¬ ci = 99 by omega)]; exact List.mem_cons_self)
        have hov : va_Nw (.arrayOver (.object (zcl ci).1)) s := by
          rcases hci with rfl | rfl | rfl
          · exact hAw _ List.mem_cons_self
          · exact hAw _ (List.mem_cons_of_mem _ List.mem_cons_self)
          · exact hAw _ (List.mem_cons_of_mem _ (List.mem_cons_of_mem _ List.mem_cons_self))
        have hzr : zrt ci = .object (zcl ci).1 := by
          unfold zrt zcl
          rw [if_neg (by omega)]
        refine W.anew hexec hb hown (hts _ h2) hov rfl hd rfl hn0' (by rw [e0]; omega) hR.1 (by rw [e0]; exact hR.2) fun cA kA comp f1 f2 f3 f4 => ?_
        rw [e0]
        generalize hH1 : H.push ({ cls := cA, slots := Array.replicate n9 .null, vm := .none } : Cell) = H1
        have z1 : H1.size = H.size + 1 := by rw [← hH1, Array.size_push]
        have e3 : H1[H.size]? = some (arrV cA n9 (fun _ => .null)) := by rw [← hH1, Array.getElem?_push_size, ← arrV_new]
        have o1 : ∀ q : Nat, q < H.size → H1[q]? = H[q]? := fun q hq => by rw [← hH1, Array.getElem?_push, if_neg (Nat.ne_of_lt hq)]
        have hAr : ArrOfT s cA (.object (zcl ci).1) := fun N z => ⟨(fun k h => by cases h), kA, f2, comp, f3⟩
        rw [hz] at e3
        have k2 := kk H1 locs (by omega) (hP.upd (fun q hq hl => o1 q hl) ⟨by omega, cA, e3, by rw [hzr]; exact hAr, by rw [hzr]; exact ⟨kA, comp, f2, f3, f4, f1⟩⟩) ⟨Nat.le_trans hS.1 (by omega), fun x h1 h2 => (o1 x (by have := hS.1; omega)).trans (hS.2.1 x h1 h2), hS.2.2⟩ (by simpa [zw] using hw.2)
        rw [e1, e2] at k2
        rw [hz]
        exact k2
      · cases h
    · cases h
  -- multianewarray
  · rename_i idx K N st0
    rw [List.forall_mem_cons, List.forall_mem_cons] at hw
    split at h
    · rename_i hc
      split at h
      · rename_i hN
        cases h
        obtain ⟨n9, rfl⟩ := Int.eq_ofNat_of_zero_le hN.1
        obtain ⟨k9, rfl⟩ := Int.eq_ofNat_of_zero_le hN.2.2.1
        have hr : zR (n9 : Int) := hw.2.1
        have hrk : zR (k9 : Int) := hw.1
        have e0 : (Int32.ofInt (n9 : Int)).toNatClampNeg = n9 := by show (Int32.ofInt _).toInt.toNat = _; rw [zI_toInt hr]; rfl
        have e0k : (Int32.ofInt (k9 : Int)).toNatClampNeg = k9 := by show (Int32.ofInt _).toInt.toNat = _; rw [zI_toInt hrk]; rfl
        have hn0' : ¬ Int32.ofInt (n9 : Int) < 0 := by rw [zI_0, zI_lt hr zR0]; omega
        have hk0' : ¬ Int32.ofInt (k9 : Int) < 0 := by rw [zI_0, zI_lt hrk zR0]; omega
        have e1 : σ.1 + 1 + n9 - σ.1 = 1 + n9 := by omega
        have e2 : σ.2.1 + n9 + n9 * k9 - σ.2.1 = n9 + n9 * k9 := by omega
        simp only [Int.toNat_natCast] at kk hR
        rw [e1, e2] at hR
        have h2 := zkk_w _ (zkk_mem hc) (.classLink (zcn M.2.2.1) idx "[[I") (by unfold kkw; rw [if_pos rfl]; exact List.mem_cons_self)
        have hov : va_Nw (.arrayOver (.array .int)) s := hAw _ (List.mem_cons_of_mem _ (List.mem_cons_of_mem _ (List.mem_cons_of_mem _ List.mem_cons_self)))
        intro T hT Xs
        obtain ⟨vm₁, cA, cy, -, fA, fC, hO, hI, X', step⟩ := Xs.multianewarray2F hexec hown (ty := .int) (by rw [show ("[" ++ (FieldType.array .int).toString) = "[[I" from by decide]; exact hts _ h2) hov (hts _ (zarr_w 0 (by decide))) (g := F0 m pc ls (.int (Int32.ofInt (k9 : Int)) :: .int (Int32.ofInt (n9 : Int)) :: st0.map zv)) rfl (by rw [hb]; exact hd) rfl hn0' hk0' (by rw [e0]; omega) (by rw [e0k]; show k9 * 4 ≤ _; omega) (by rw [e0k]; omega) rfl rfl (by rw [e0]; exact hR.1) (by rw [e0, e0k]; exact hR.2)
        rw [e0, e0k] at X' step
        generalize hF : Jvm.Free.Multi.fill (T.setVm vm₁) cA cy n9 k9 (defaultValue .int) n9 = F at X' step
        have hTh : (T.setVm vm₁).heap = H := hT
        obtain ⟨f1, f2, -, -⟩ := Jvm.Free.Multi.fill_facts (T.setVm vm₁) cA cy n9 k9 (defaultValue .int) n9
        rw [hF, hTh] at f1 f2
        have hold : ∀ x : Nat, x < H.size → F.heap[x]? = H[x]? := fun x hx => by
          have := Jvm.Free.Multi.fill_old (T.setVm vm₁) cA cy n9 k9 (defaultValue .int) (a := x) (by rw [hTh]; exact hx) n9
          rw [hF, hTh] at this
          exact this
        have hrow : ∀ j : Nat, j < n9 → F.heap[H.size + 1 + j]? = some (Jvm.Free.Multi.innerC cy k9 (defaultValue .int)) := fun j hj => by
          have := Jvm.Free.Multi.fill_inner (T.setVm vm₁) cA cy n9 k9 (defaultValue .int) n9 j hj
          rw [hF, hTh] at this
          exact this
        rw [zouter] at f2
        have hin : Jvm.Free.Multi.innerC cy k9 (defaultValue .int) = arrV cy k9 (fun _ => .int (Int32.ofInt 0)) := arrV_new cy k9 _
        rw [hin] at hrow
        have hAr : ArrOfT s cA (.array .int) := fun N9 z9 => by
          obtain ⟨-, k9, hk9, cm9, hkk9⟩ := (hO 0 0 0).1
          exact ⟨(fun q hq => by cases hq), k9, hk9, cm9, hkk9⟩
        have hAi : ArrOfT s cy .int := fun N9 z9 => by
          obtain ⟨-, k9, hk9, cm9, hkk9⟩ := (hI 0 .null).1
          exact ⟨(fun q hq => by cases hq), k9, hk9, cm9, hkk9⟩
        have hPn : zP n0 D s F.heap (zrows σ.2.2 σ.1 n9 k9) := by
          intro q x hq
          unfold zrows at hq
          split at hq
          · rename_i hqn
            cases hq
            rw [hqn, ← hz]
            exact ⟨by omega, cA, f2, hAr, fA⟩
          · split at hq
            · rename_i hq1 hq2
              cases hq
              have e9 : q = H.size + 1 + (q - (H.size + 1)) := by omega
              rw [e9]
              exact ⟨by decide, by omega, fun j _ => ⟨zR0, rfl⟩, Or.inl ⟨by have := hS.1; omega, cy, hrow _ (by omega), hAi⟩⟩
            · rename_i hq1 hq2
              have h1 := hP q x hq
              exact h1.kept (hold q h1.lt)
        have k2 := kk F.heap locs (by rw [f1]; omega) hPn ⟨by rw [f1]; have := hS.1; omega, fun x h1 h2 => (hold x (Nat.lt_of_lt_of_le h1 hS.1)).trans (hS.2.1 x h1 h2), hS.2.2⟩ (by simpa [zw] using hw.2.2)
        rw [e1, e2] at k2
        obtain ⟨t, a1, b1⟩ := k2 F rfl (by
          have e8 : cells + (1 + n9) = cells + 1 + n9 := by omega
          have e7 : slots + (n9 + n9 * k9) = slots + n9 + n9 * k9 := by omega
          rw [e8, e7]
          exact X')
        refine ⟨t, step t ?_, b1⟩
        have e : T.heap.size = σ.1 := by rw [hT, hz]
        rw [e]
        exact a1
      · cases h
    · cases h
  · cases h
end ZSD
