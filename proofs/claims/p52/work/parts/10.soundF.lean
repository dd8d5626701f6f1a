/-! ===== each kind of call; the whole run ===== -/
section ZSF
variable {p : Program} {l : Launch} {e : Env} {R : Room} {s : State} {m : MethodId} {args : Array Value} {below : List Frame} {meth : Method} {c : Code} {H : Heap} {locs : List Loc} {cells slots : Nat} {Q : State → Prop}
variable {n0 : Nat} {D : va_G} {g : Nat → zV} {M M' : zM} {pc : Nat} {ls : Array Slot} {st rest as : List zV} {σ σ1 : zS} {v1 : Option zV} {f idx n ci b : Nat}
theorem kmb_facts {k : Nat × Nat} {kd : Nat} (hk : kd < 6) (hb : kmb (k, (kd, n, ci, M')) = true) : (M'.2.2.2.2.2.2.1.cls ≠ "java/lang/invoke/MethodHandle" ∧ M'.2.2.2.2.2.2.1.cls ≠ "java/lang/invoke/VarHandle" ∧ (parseMethodDescriptor M'.2.2.2.2.2.2.1.desc).map (fun d => d.parameters.length) = some n) ∧ plainFor M'.2.2.2.2.2.2.1 = true ∧ zcn M'.2.2.1 = M'.2.2.2.2.2.2.1.cls ∧ (M'.2.2.2.1 = true ↔ M'.2.2.2.2.2.2.1.name = "<init>") ∧ ci < 11 := by
  unfold kmb at hb
  simp only [if_neg (show ¬ 6 ≤ kd by omega), Bool.and_eq_true, decide_eq_true_eq] at hb
  obtain ⟨⟨⟨⟨⟨⟨⟨h1, h2⟩, h3⟩, h4⟩, h5⟩, h6⟩, h7⟩, -⟩ := hb
  exact ⟨⟨h1, h2, h4⟩, h3, h5, h6, h7⟩
theorem zroom_ok (h : zroom M M' = true) (hfr : M.2.2.2.2.1 ≤ R.frames) (hlo : M.2.2.2.2.2.1 ≤ R.locals) : M'.2.2.2.2.1 + 1 ≤ R.frames ∧ 8 + (M'.2.1 + 11) + M'.2.2.2.2.2.1 ≤ R.locals := by
  unfold zroom at h
  simp only [Bool.and_eq_true, Nat.ble_eq] at h
  omega
theorem zlr (hr : rest.length ≤ 8) {ls0 : Array Slot} {rest0 : List Value} : 2 * (F0 m pc ls0 rest0).monitorRoom + ((rest.map zv).map fun v => v.category).sum ≤ 8 := lv_room (by rw [zcats]; exact hr)
theorem zc_S (F : zFx p m c meth M s args) (KS : KK n0 D g s) (hfr : M.2.2.2.2.1 ≤ R.frames) (hlo : M.2.2.2.2.2.1 ≤ R.locals) (hz : H.size = σ.1) (hn0 : n0 ≤ s.heap.size) (hP : zP n0 D s H σ.2.2) (hS : va_S (fun q => n0 ≤ q) s.heap H locs) (hls : ls.size = M.2.1)
    (hm : zkm M.2.2.1 idx = some (0, n, ci, M')) (hn : n ≤ st.length ∧ st.length ≤ n + 8 ∧ zroom M M' = true) (hM : Met l M'.2.2.2.2.2.2.1 (zcode M' :: zT) { frames := M'.2.2.2.2.1, cells := σ1.1 - σ.1, slots := σ1.2.1 - σ.2.1, locals := M'.2.2.2.2.2.1 } (zPc n0 D g σ (((st.take n).reverse).map zv)) (zQc n0 D v1 σ1) (σ1.1 - σ.1) (σ1.2.1 - σ.2.1) (fun q => n0 ≤ q))
    (hd : decode M.1 pc = .ok (.invokestatic idx, 3)) (hf : cells + (σ1.1 - σ.1) ≤ R.cells ∧ slots + (σ1.2.1 - σ.2.1) ≤ R.slots) :
    va_Run p l e R s m args below meth c H locs cells slots (σ1.1 - σ.1) (σ1.2.1 - σ.2.1) (F0 m pc ls (st.map zv)) ((st.drop n).map zv) (zQc n0 D v1 σ1 (((st.take n).reverse).map zv).toArray) (fun q => n0 ≤ q) := by
  obtain ⟨hexec, hb, hml, hown, hts, -⟩ := F
  have hw := zkm_w _ (zkm_mem hm)
  obtain ⟨k1, k2, k3, k4, k5⟩ := kmb_facts (by decide) (zkm_b _ (zkm_mem hm))
  have w1 := hts _ (hw _ List.mem_cons_self)
  have w2 := hts _ (hw _ (List.mem_cons_of_mem _ List.mem_cons_self))
  have w3 := hts _ (hw _ (List.mem_cons_of_mem _ (List.mem_cons_of_mem _ List.mem_cons_self)))
  have w4 := hw _ (List.mem_cons_of_mem _ (List.mem_cons_of_mem _ (List.mem_cons_of_mem _ List.mem_cons_self)))
  exact va_runS ⟨hexec, hb, hml, hown, hts⟩ hM ⟨callB_of n hts (zgoodM w4) rfl rfl rfl w3 w1 k1 (zroom_ok hn.2.2 hfr hlo), w2⟩ ⟨zPc_blind, zpre KS hP hz hS hn0⟩ rfl (by rw [List.length_map, List.length_reverse, List.length_take]; omega) hls (zargs st n) (zlr (by rw [List.length_drop]; omega)) hd hf
theorem zc_V {kd : Nat} {fs : List zV} (F : zFx p m c meth M s args) (KS : KK n0 D g s) (hfr : M.2.2.2.2.1 ≤ R.frames) (hlo : M.2.2.2.2.2.1 ≤ R.locals) (hz : H.size = σ.1) (hn0 : n0 ≤ s.heap.size) (hP : zP n0 D s H σ.2.2) (hS : va_S (fun q => n0 ≤ q) s.heap H locs) (hls : ls.size = M.2.1)
    (hm : zkm M.2.2.1 idx = some (kd, n, ci, M')) (hkd : kd = 1 ∨ kd = 4) (hst : st.drop n = .inr (some b) :: rest) (ho : σ.2.2 b = some (.inl (ci, fs))) (hn : rest.length ≤ 8 ∧ zroom M M' = true) (hM : Met l M'.2.2.2.2.2.2.1 (zcode M' :: zT) { frames := M'.2.2.2.2.1, cells := σ1.1 - σ.1, slots := σ1.2.1 - σ.2.1, locals := M'.2.2.2.2.2.1 } (zPc n0 D g σ ((.inr (some b) :: (st.take n).reverse).map zv)) (zQc n0 D v1 σ1) (σ1.1 - σ.1) (σ1.2.1 - σ.2.1) (fun q => n0 ≤ q))
    (hd : decode M.1 pc = .ok (.invokevirtual idx, 3)) (hf : cells + (σ1.1 - σ.1) ≤ R.cells ∧ slots + (σ1.2.1 - σ.2.1) ≤ R.slots) :
    va_Run p l e R s m args below meth c H locs cells slots (σ1.1 - σ.1) (σ1.2.1 - σ.2.1) (F0 m pc ls (st.map zv)) (rest.map zv) (zQc n0 D v1 σ1 ((.inr (some b) :: (st.take n).reverse).map zv).toArray) (fun q => n0 ≤ q) := by
  obtain ⟨hexec, hb, hml, hown, hts, -⟩ := F
  have hw := zkm_w _ (zkm_mem hm)
  have hlen : n < st.length := by
    have := congrArg List.length hst
    rw [List.length_drop, List.length_cons] at this
    omega
  have hargs : st.map zv = (((st.take n).reverse).map zv).reverse ++ .ref b :: rest.map zv := by
    have := zargs st n
    rw [hst] at this
    exact this
  obtain ⟨h12, -, -, cell, q1, q2, q3, -⟩ := hP _ _ ho
  have hcls := (KS.1.1 ci _ (zcl_at h12)).2
  have hrecv : ∃ cellB : Cell, H[b]? = some cellB ∧ cellB.vm.isStatics = false ∧ s.vm.findClass (zcl ci).1 = some cellB.cls := ⟨cell, q1, by rw [q3]; rfl, by rw [q2]; exact hcls.1⟩
  have hb9 := zkm_b _ (zkm_mem hm)
  rcases hkd with rfl | rfl
  · obtain ⟨k1, k2, k3, k4, k5⟩ := kmb_facts (by decide) hb9
    have hy : M'.2.2.2.2.2.2.1.cls = (zcl ci).1 := by
      unfold kmb at hb9
      simp only [if_neg (show ¬ 6 ≤ 1 by decide), Bool.and_eq_true, decide_eq_true_eq] at hb9
      exact hb9.2
    have w1 := hts _ (hw _ List.mem_cons_self)
    have w2 := hts _ (hw _ (List.mem_cons_of_mem _ List.mem_cons_self))
    have w3 := hts _ (hw _ (List.mem_cons_of_mem _ (List.mem_cons_of_mem _ List.mem_cons_self)))
    have w4 := hts _ (hw _ (List.mem_cons_of_mem _ (List.mem_cons_of_mem _ (List.mem_cons_of_mem _ List.mem_cons_self))))
    have w5 := hw _ (List.mem_cons_of_mem _ (List.mem_cons_of_mem _ (List.mem_cons_of_mem _ (List.mem_cons_of_mem _ List.mem_cons_self))))
    rw [← hy] at hrecv
    exact va_runV (C := M'.2.2.2.2.2.2.1.cls) ⟨hexec, hb, hml, hown, hts⟩ hM ⟨callB_of n hts (zgoodM w5) rfl rfl rfl w4 w1 k1 (zroom_ok hn.2 hfr hlo), w2, w3⟩ ⟨zPc_blind, hrecv, zpre KS hP hz hS hn0⟩ rfl (by rw [List.length_map, List.length_reverse, List.length_take]; omega) hls hargs (zlr hn.1) hd hf
  · obtain ⟨k1, k2, k3, k4, k5⟩ := kmb_facts (by decide) hb9
    have w1 := hts _ (hw _ List.mem_cons_self)
    have w2 := hts _ (hw _ (List.mem_cons_of_mem _ List.mem_cons_self))
    have w3 := hts _ (hw _ (List.mem_cons_of_mem _ (List.mem_cons_of_mem _ List.mem_cons_self)))
    have w4 := hts _ (hw _ (List.mem_cons_of_mem _ (List.mem_cons_of_mem _ (List.mem_cons_of_mem _ List.mem_cons_self))))
    have w5 := hts _ (hw _ (List.mem_cons_of_mem _ (List.mem_cons_of_mem _ (List.mem_cons_of_mem _ (List.mem_cons_of_mem _ List.mem_cons_self)))))
    have w6 := hw _ (List.mem_cons_of_mem _ (List.mem_cons_of_mem _ (List.mem_cons_of_mem _ (List.mem_cons_of_mem _ (List.mem_cons_of_mem _ List.mem_cons_self)))))
    have hcc : Cond.code M'.2.2.2.2.2.2.1 M'.1 M'.2.1 M'.2.2.2.2.2.2.2 ∈ zcode M' :: zT := List.mem_cons_self
    have hR := zroom_ok hn.2 hfr hlo
    exact va_runU (C := (zcl ci).1) (owner := M'.2.2.2.2.2.2.1.cls) (x := M'.2.2.2.2.2.2.1) ⟨hexec, hb, hml, hown, hts⟩ hM ⟨⟨rfl, rfl, hR.1, hR.2, pay_in hts (zgoodM w6), hcc⟩, hts _ w6, w5, ⟨k1.1, k1.2.1⟩, fun sig h => by
      have h2 := k1.2.2
      rw [h] at h2
      exact (Option.some.inj h2).symm, w1, w2, va_Decl.of w4 (hts _ w6), w3, w4⟩ ⟨zPc_blind, hrecv, zpre KS hP hz hS hn0⟩ rfl (by rw [List.length_map, List.length_reverse, List.length_take]; omega) hls hargs (zlr hn.1) hd hf
theorem zc_I {kd : Nat} (F : zFx p m c meth M s args) (KS : KK n0 D g s) (hfr : M.2.2.2.2.1 ≤ R.frames) (hlo : M.2.2.2.2.2.1 ≤ R.locals) (hz : H.size = σ.1) (hn0 : n0 ≤ s.heap.size) (hP : zP n0 D s H σ.2.2) (hS : va_S (fun q => n0 ≤ q) s.heap H locs) (hls : ls.size = M.2.1)
    (hm : zkm M.2.2.1 idx = some (kd, n, ci, M')) (hkd : kd = 2 ∨ kd = 3) (hst : st.drop n = .inr (some b) :: rest) (hn : rest.length ≤ 8 ∧ zroom M M' = true) (hM : Met l M'.2.2.2.2.2.2.1 (zcode M' :: zT) { frames := M'.2.2.2.2.1, cells := σ1.1 - σ.1, slots := σ1.2.1 - σ.2.1, locals := M'.2.2.2.2.2.1 } (zPc n0 D g σ ((.inr (some b) :: (st.take n).reverse).map zv)) (zQc n0 D v1 σ1) (σ1.1 - σ.1) (σ1.2.1 - σ.2.1) (fun q => n0 ≤ q))
    (hd : decode M.1 pc = .ok (.invokespecial idx, 3)) (hf : cells + (σ1.1 - σ.1) ≤ R.cells ∧ slots + (σ1.2.1 - σ.2.1) ≤ R.slots) :
    va_Run p l e R s m args below meth c H locs cells slots (σ1.1 - σ.1) (σ1.2.1 - σ.2.1) (F0 m pc ls (st.map zv)) (rest.map zv) (zQc n0 D v1 σ1 ((.inr (some b) :: (st.take n).reverse).map zv).toArray) (fun q => n0 ≤ q) := by
  obtain ⟨hexec, hb, hml, hown, hts, -⟩ := F
  have hw := zkm_w _ (zkm_mem hm)
  have hlen : n < st.length := by
    have := congrArg List.length hst
    rw [List.length_drop, List.length_cons] at this
    omega
  have hargs : st.map zv = (((st.take n).reverse).map zv).reverse ++ .ref b :: rest.map zv := by
    have := zargs st n
    rw [hst] at this
    exact this
  have hb9 := zkm_b _ (zkm_mem hm)
  have hR := zroom_ok hn.2 hfr hlo
  rcases hkd with rfl | rfl
  · obtain ⟨k1, k2, k3, k4, k5⟩ := kmb_facts (by decide) hb9
    have hy : M'.2.2.2.2.2.2.1.name = "<init>" ∧ M'.2.2.2.2.2.2.2 = none := by
      unfold kmb at hb9
      simp only [if_neg (show ¬ 6 ≤ 2 by decide), Bool.and_eq_true, decide_eq_true_eq] at hb9
      exact hb9.2
    have w1 := hts _ (hw _ List.mem_cons_self)
    have w2 := hts _ (hw _ (List.mem_cons_of_mem _ List.mem_cons_self))
    have w3 := hts _ (hw _ (List.mem_cons_of_mem _ (List.mem_cons_of_mem _ List.mem_cons_self)))
    have w4 := hw _ (List.mem_cons_of_mem _ (List.mem_cons_of_mem _ (List.mem_cons_of_mem _ List.mem_cons_self)))
    exact va_runI ⟨hexec, hb, hml, hown, hts⟩ hM ⟨callB_of n hts (zgoodM w4) (by unfold zcode; rw [hy.2]) rfl rfl w3 w1 k1 hR, hy.1, w2⟩ ⟨zPc_blind, zpre KS hP hz hS hn0⟩ rfl (by rw [List.length_map, List.length_reverse, List.length_take]; omega) hls hargs (zlr hn.1) hd hf
  · obtain ⟨k1, k2, k3, k4, k5⟩ := kmb_facts (by decide) hb9
    have hy : (M'.2.2.2.2.2.2.1.name = "<init>" ∧ M'.2.2.2.2.2.2.2 = none) ∧ ((M.2.2.1, idx), M'.2.2.2.2.2.2.1) ∈ znest := by
      unfold kmb at hb9
      simp only [if_neg (show ¬ 6 ≤ 3 by decide), Bool.and_eq_true, decide_eq_true_eq] at hb9
      exact hb9.2
    have hnw : va_Nw (.methodLinkNest (zcn M.2.2.1) idx M'.2.2.2.2.2.2.1 "GroebnerFan") s := KS.2.1 _ (List.mem_map.mpr ⟨_, hy.2, rfl⟩)
    have w2 := hts _ (hw _ List.mem_cons_self)
    have w3 := hts _ (hw _ (List.mem_cons_of_mem _ List.mem_cons_self))
    have w4 := hw _ (List.mem_cons_of_mem _ (List.mem_cons_of_mem _ List.mem_cons_self))
    exact va_runIN ⟨hexec, hb, hml, hown, hts⟩ hM ⟨va_cnB n hts (zgoodM w4) (by unfold zcode; rw [hy.1.2]) rfl rfl hnw w3 k1 hR, hy.1.1, w2⟩ ⟨zPc_blind, zpre KS hP hz hS hn0⟩ rfl (by rw [List.length_map, List.length_reverse, List.length_take]; omega) hls hargs (zlr hn.1) hd hf
theorem zc_U {fs : List zV} (F : zFx p m c meth M s args) (KS : KK n0 D g s) (hfr : M.2.2.2.2.1 ≤ R.frames) (hlo : M.2.2.2.2.2.1 ≤ R.locals) (hz : H.size = σ.1) (hn0 : n0 ≤ s.heap.size) (hP : zP n0 D s H σ.2.2) (hS : va_S (fun q => n0 ≤ q) s.heap H locs) (hls : ls.size = M.2.1)
    (hm : zkm M.2.2.1 idx = some (5, n, ci, M')) (hst : st.drop n = .inr (some b) :: rest) (ho : σ.2.2 b = some (.inl (ci, fs))) (hn : rest.length ≤ 8 ∧ zroom M M' = true) (hM : Met l M'.2.2.2.2.2.2.1 (zcode M' :: zT) { frames := M'.2.2.2.2.1, cells := σ1.1 - σ.1, slots := σ1.2.1 - σ.2.1, locals := M'.2.2.2.2.2.1 } (zPc n0 D g σ ((.inr (some b) :: (st.take n).reverse).map zv)) (zQc n0 D v1 σ1) (σ1.1 - σ.1) (σ1.2.1 - σ.2.1) (fun q => n0 ≤ q))
    (hd : decode M.1 pc = .ok (.invokespecial idx, 3)) (hf : cells + (σ1.1 - σ.1) ≤ R.cells ∧ slots + (σ1.2.1 - σ.2.1) ≤ R.slots) :
    va_Run p l e R s m args below meth c H locs cells slots (σ1.1 - σ.1) (σ1.2.1 - σ.2.1) (F0 m pc ls (st.map zv)) (rest.map zv) (zQc n0 D v1 σ1 ((.inr (some b) :: (st.take n).reverse).map zv).toArray) (fun q => n0 ≤ q) := by
  obtain ⟨hexec, hb, hml, hown, hts, -⟩ := F
  have hw := zkm_w _ (zkm_mem hm)
  have hlen : n < st.length := by
    have := congrArg List.length hst
    rw [List.length_drop, List.length_cons] at this
    omega
  have hargs : st.map zv = (((st.take n).reverse).map zv).reverse ++ .ref b :: rest.map zv := by
    have := zargs st n
    rw [hst] at this
    exact this
  obtain ⟨h12, -, -, cell, q1, q2, q3, -⟩ := hP _ _ ho
  have hcls := (KS.1.1 ci _ (zcl_at h12)).2
  have hrecv : ∃ cellB : Cell, H[b]? = some cellB ∧ cellB.vm.isStatics = false ∧ s.vm.findClass (zcl ci).1 = some cellB.cls := ⟨cell, q1, by rw [q3]; rfl, by rw [q2]; exact hcls.1⟩
  have hb9 := zkm_b _ (zkm_mem hm)
  have hR := zroom_ok hn.2 hfr hlo
  obtain ⟨k1, k2, k3, k4, k5⟩ := kmb_facts (by decide) hb9
  have hy : M'.2.2.2.2.2.2.1.name ≠ "<init>" := by
    unfold kmb at hb9
    simp only [if_neg (show ¬ 6 ≤ 5 by decide), Bool.and_eq_true, decide_eq_true_eq] at hb9
    exact hb9.2
  have w1 := hts _ (hw _ List.mem_cons_self)
  have w2 := hts _ (hw _ (List.mem_cons_of_mem _ List.mem_cons_self))
  have w3 := hts _ (hw _ (List.mem_cons_of_mem _ (List.mem_cons_of_mem _ List.mem_cons_self)))
  have w4 := hts _ (hw _ (List.mem_cons_of_mem _ (List.mem_cons_of_mem _ (List.mem_cons_of_mem _ List.mem_cons_self))))
  have w5 := hts _ (hw _ (List.mem_cons_of_mem _ (List.mem_cons_of_mem _ (List.mem_cons_of_mem _ (List.mem_cons_of_mem _ List.mem_cons_self)))))
  have w6 := hw _ (List.mem_cons_of_mem _ (List.mem_cons_of_mem _ (List.mem_cons_of_mem _ (List.mem_cons_of_mem _ (List.mem_cons_of_mem _ List.mem_cons_self)))))
  have hcc : Cond.code M'.2.2.2.2.2.2.1 M'.1 M'.2.1 M'.2.2.2.2.2.2.2 ∈ zcode M' :: zT := List.mem_cons_self
  exact va_runSU (C := (zcl ci).1) (cC := D.1 ci) hcls ⟨hexec, hb, hml, hown, hts⟩ hM ⟨⟨rfl, rfl, hR.1, hR.2, pay_in hts (zgoodM w6), hcc⟩, w1, w2, w3, w4, w5, hts _ w6, hy, fun sig h => by
      have h2 := k1.2.2
      rw [h] at h2
      exact (Option.some.inj h2).symm⟩ ⟨zPc_blind, hrecv, zpre KS hP hz hS hn0⟩ rfl (by rw [List.length_map, List.length_reverse, List.length_take]; omega) hls hargs (zlr hn.1) hd hf
end ZSF
