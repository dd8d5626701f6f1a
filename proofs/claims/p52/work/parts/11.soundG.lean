/-! ===== returns, arraycopy, Object's constructor; the whole run ===== -/
section ZSG
variable {p : Program} {l : Launch} {e : Env} {R : Room} {s : State} {m : MethodId} {args : Array Value} {below : List Frame} {meth : Method} {c : Code} {H : Heap} {locs : List Loc} {cells slots : Nat} {Q : State → Prop}
theorem zW_copy {cc : ByteArray} {ls : Array Slot} {pc : Nat} {rest : List Value} (hexec : p.tables.exec = Jvm.exec) (hb : c.code = cc) (hml : c.maxLocals = ls.size) {own : String} {index : Nat} (hown : s.vm.findClass own = some m.cls) (hlink : (Cond.methodLink own index arraycopyName).before args s = true) (hnat : (Cond.native arraycopyName).before args s = true) (hstat : (Cond.static arraycopyName).before args s = true) (hini : (Cond.initialized "java/lang/System").before args s = true)
    {a a0 : Nat} {c0 c1 : ClassId} {N0 N1 : Nat} {f g : Nat → Int32} {ty : FieldType} (ha0 : H[a0]? = some (arrV c0 N0 (fun j => .int (f j)))) (ha1 : H[a]? = some (arrV c1 N1 (fun j => .int (g j)))) (ht0 : ArrOfT s c0 ty) (ht1 : ArrOfT s c1 ty) (hprim : refKind ty = false)
    {sp dp n : Int32} (h1 : ¬ sp < 0) (h2 : ¬ dp < 0) (h3 : ¬ n < 0) (h4 : sp.toNatClampNeg + n.toNatClampNeg ≤ N0) (h5 : dp.toNatClampNeg + n.toNatClampNeg ≤ N1) (hfit : ∀ i, i < n.toNatClampNeg → fits ty (.int (f (sp.toNatClampNeg + i))) = true)
    (hframes : 1 ≤ R.frames) (hlocals : (rest.map fun v => v.category).sum + (nativeFrameWords "java/lang/System" "arraycopy" 5 + 11) ≤ R.locals) (hdg : decode cc pc = .ok (.invokestatic index, 3))
    (kk : ∀ (H1 : Heap) (L1 : List Loc), H1[a]? = some (arrV c1 N1 (fun j => .int (va_cpy f g sp.toNatClampNeg dp.toNatClampNeg n.toNatClampNeg j))) → H1.size = H.size → (∀ q : Nat, q ≠ a → H1[q]? = H[q]?) → (∀ q ∈ L1, q.base = a) → W p l e R s m args below meth c H1 (locs ++ L1) cells slots Q (F0 m (pc + 3) ls rest)) : W p l e R s m args below meth c H locs cells slots Q (F0 m pc ls (.int n :: .int dp :: .ref a :: .int sp :: .ref a0 :: rest)) := by
  have nn : ∀ z : Int32, ¬ z < 0 → z.toInt = (z.toNatClampNeg : Int) := by
    intro z hz
    have hz0 : (0 : Int) ≤ z.toInt := by
      have := Int32.not_lt.mp hz
      simpa using Int32.le_iff_toInt_le.mp this
    show z.toInt = ((z.toInt.toNat : Nat) : Int)
    omega
  intro T hT X
  obtain ⟨-, k0, hk0, cm0, hkk0⟩ := ht0 N0 (fun j => .int (f j))
  obtain ⟨-, k1, hk1, cm1, hkk1⟩ := ht1 N1 (fun j => .int (g j))
  obtain ⟨vm', X', step⟩ := X.arraycopy hexec hown hlink hnat hstat hini (src := a0) (dst := a) (cs := arrV c0 N0 (fun j => .int (f j))) (cd := arrV c1 N1 (fun j => .int (g j))) (srcPos := sp) (destPos := dp) (n := n) (by rw [hT]; exact ha0) (by rw [hT]; exact ha1)
    (fun _ h => by cases h) (fun _ h => by cases h) (fun h => by cases h) (fun h => by cases h) hk0 hk1 hkk0 hkk1 (by simp [hprim]) h1 h2 h3
    (by rw [nn sp h1, nn n h3]; show ¬ _ > ((arrV c0 N0 (fun j => .int (f j))).slots.size : Int); rw [arrV_size]; omega)
    (by rw [nn dp h2, nn n h3]; show ¬ _ > ((arrV c1 N1 (fun j => .int (g j))).slots.size : Int); rw [arrV_size]; omega)
    (fun vm₁ _ i hi => by
      have e : (arrV c0 N0 (fun j => .int (f j))).slots.getD (sp.toNatClampNeg + i) .null = .int (f (sp.toNatClampNeg + i)) := by
        rw [Array.getD_eq_getD_getElem?, arrV_read _ _ (by omega)]
        rfl
      refine ⟨?_, ?_⟩
      · rw [e]
        exact hfit i hi
      · rw [e]
        exact trivial)
    (g := F0 m pc ls (.int n :: .int dp :: .ref a :: .int sp :: .ref a0 :: rest)) rfl (by rw [hml]) (rest := rest) rfl (by rw [hb]; exact hdg) hframes (by show 2 * 0 + _ + _ ≤ _; omega)
  have e1 : copied (arrV c0 N0 (fun j => .int (f j))) (arrV c1 N1 (fun j => .int (g j))) sp dp n = arrV c1 N1 (fun j => .int (va_cpy f g sp.toNatClampNeg dp.toNatClampNeg n.toNatClampNeg j)) := va_copied (fun z => .int z) c0 c1 f g h4
  rw [e1] at X' step
  have hl : a < H.size := (Array.getElem?_eq_some_iff.mp ha1).1
  obtain ⟨t, a1, b1⟩ := kk (H.setIfInBounds a (arrV c1 N1 (fun j => .int (va_cpy f g sp.toNatClampNeg dp.toNatClampNeg n.toNatClampNeg j)))) _ (by simp [Array.getElem?_setIfInBounds, hl]) (by simp) (fun q hq => by simp [Array.getElem?_setIfInBounds, Ne.symm hq]) (fun q hq => by
      obtain ⟨z, -, hz⟩ := List.mem_map.mp hq
      rw [← hz]) _ (by rw [← hT]; rfl) X'
  exact ⟨t, step t a1, b1⟩
variable {n0 : Nat} {D : va_G} {g : Nat → zV} {M : zM} {f : Nat}
theorem zend {v : Option zV} {σ : zS} (hz : H.size = σ.1) (hP : zP n0 D s H σ.2.2) (hS : va_S (fun q => n0 ≤ q) s.heap H locs) (hw : ∀ w, v = some w → zw w) : ∀ t : State, t.heap = H → s.WarmedH t.vm → zQc n0 D v σ args s (.returned (v.map zv)) t := fun t ht hW =>
  ⟨rfl, by rw [ht]; exact hz, by rw [ht]; exact hP.moved hW.alike, hS.F ht, hw⟩
theorem zcpy_ok {f9 g9 : Nat → Int} {sp dp n : Nat} : (fun j => Value.int (va_cpy (fun j => Int32.ofInt (f9 j)) (fun j => Int32.ofInt (g9 j)) sp dp n j)) = fun j => .int (Int32.ofInt (zcp f9 g9 sp dp n j)) := by
  funext j
  unfold va_cpy zcp
  split <;> rfl
set_option maxHeartbeats 4000000 in
theorem zE_ok (ih : zSt l n0 D g f) {ins : Instr} {len pc : Nat} {L : List (Option zV)} {st : List zV} {σ σ' : zS} {v : Option zV} {q : zQq} {ls : Array Slot} (h1 : zE n0 zkm ins len M pc L st σ = some q) (hd : decode M.1 pc = .ok (ins, len))
    (hq : match q with
      | .inl (pc', L', st', σ1) => zrun n0 g zkf zks zkk zkc zkm f M pc' L' st' σ1 = some (v, σ')
      | .inr (.inl (M', as, rest)) => as.length ≤ M'.2.1 ∧ ∃ w σ1, zrun n0 g zkf zks zkk zkc zkm f M' 0 (zloc M' as) [] σ = some (w, σ1) ∧ zrun n0 g zkf zks zkk zkc zkm f M (pc + 3) L (w.toList ++ rest) σ1 = some (v, σ')
      | .inr (.inr w) => w = v ∧ σ = σ')
    (F : zFx p m c meth M s args) (KS : KK n0 D g s) (hfr : M.2.2.2.2.1 ≤ R.frames) (hlo : M.2.2.2.2.2.1 ≤ R.locals) (hz : H.size = σ.1) (hn0 : n0 ≤ s.heap.size) (hP : zP n0 D s H σ.2.2) (hw : ∀ v ∈ st, zw v) (hL : zL L ls) (hLl : L.length = M.2.1) (hS : va_S (fun q => n0 ≤ q) s.heap H locs)
    (hc : cells + (σ'.1 - σ.1) ≤ R.cells) (hk : slots + (σ'.2.1 - σ.2.1) ≤ R.slots) : W p l e R s m args below meth c H locs cells slots (MQ below (zQc n0 D v σ') args s (cells + (σ'.1 - σ.1)) (slots + (σ'.2.1 - σ.2.1)) (fun q => n0 ≤ q)) (F0 m pc ls (st.map zv)) := by
  have hls : ls.size = M.2.1 := hL.1.trans hLl
  have sC : cells + (σ.1 - σ.1) = cells := by omega
  have sK : slots + (σ.2.1 - σ.2.1) = slots := by omega
  -- what is behind a call
  have go : ∀ {M' : zM} {as rest : List zV} {n : Nat}, zMok M' → (∀ a ∈ as, zw a) → (∀ a ∈ rest, zw a) → (as.length ≤ M'.2.1 ∧ ∃ w σ1, zrun n0 g zkf zks zkk zkc zkm f M' 0 (zloc M' as) [] σ = some (w, σ1) ∧ zrun n0 g zkf zks zkk zkc zkm f M (pc + 3) L (w.toList ++ rest) σ1 = some (v, σ')) →
      (∀ (w : Option zV) (σ1 : zS), cells + (σ1.1 - σ.1) ≤ R.cells ∧ slots + (σ1.2.1 - σ.2.1) ≤ R.slots → Met l M'.2.2.2.2.2.2.1 (zcode M' :: zT) { frames := M'.2.2.2.2.1, cells := σ1.1 - σ.1, slots := σ1.2.1 - σ.2.1, locals := M'.2.2.2.2.2.1 } (zPc n0 D g σ (as.map zv)) (zQc n0 D w σ1) (σ1.1 - σ.1) (σ1.2.1 - σ.2.1) (fun q => n0 ≤ q) →
        va_Run p l e R s m args below meth c H locs cells slots (σ1.1 - σ.1) (σ1.2.1 - σ.2.1) (F0 m pc ls (st.map zv)) (rest.map zv) (zQc n0 D w σ1 (as.map zv).toArray) (fun q => n0 ≤ q)) →
      W p l e R s m args below meth c H locs cells slots (MQ below (zQc n0 D v σ') args s (cells + (σ'.1 - σ.1)) (slots + (σ'.2.1 - σ.2.1)) (fun q => n0 ≤ q)) (F0 m pc ls (st.map zv)) := by
    intro M' as rest n ok hwa hwr hq9 hrun
    obtain ⟨hl, w, σ1, r1, r2⟩ := hq9
    have g1 := zrun_grow f _ _ _ _ _ _ _ r1
    have g2 := zrun_grow f _ _ _ _ _ _ _ r2
    refine zgo_on (hrun w σ1 ⟨by omega, by omega⟩ (zMet ih r1 ok hl hwa)) hS fun H1 locs1 z1 P1 S1 w1 => ?_
    have k := ih M (pc + 3) L (w.toList ++ rest) σ1 v σ' r2 p e R s m args below meth c H1 locs1 (cells + (σ1.1 - σ.1)) (slots + (σ1.2.1 - σ.2.1)) ls F KS hfr hlo z1 hn0 P1 (fun x hx => by
      rcases List.mem_append.mp hx with h | h
      · cases w with
        | none => exact absurd h List.not_mem_nil
        | some y =>
          rw [List.mem_singleton.mp h]
          exact w1 y rfl
      · exact hwr x h) hL hLl S1 (by omega) (by omega)
    have e1 : cells + (σ1.1 - σ.1) + (σ'.1 - σ1.1) = cells + (σ'.1 - σ.1) := by omega
    have e2 : slots + (σ1.2.1 - σ.2.1) + (σ'.2.1 - σ1.2.1) = slots + (σ'.2.1 - σ.2.1) := by omega
    rw [e1, e2] at k
    exact k
  have okM : ∀ {idx kd n ci : Nat} {M' : zM}, zkm M.2.2.1 idx = some (kd, n, ci, M') → kd < 6 → zMok M' := fun {idx kd n ci M'} hm hkd => by
    obtain ⟨k1, k2, k3, k4, -⟩ := kmb_facts hkd (zkm_b _ (zkm_mem hm))
    have hw9 := zkm_w _ (zkm_mem hm)
    refine ⟨?_, k2, k3, k4⟩
    rcases (show kd = 0 ∨ kd = 1 ∨ kd = 2 ∨ kd = 3 ∨ kd = 4 ∨ kd = 5 by omega) with rfl | rfl | rfl | rfl | rfl | rfl <;> exact hw9 _ (by simp [kmw])
  unfold zE at h1
  split at h1
  -- ireturn
  · rename_i z
    split at h1
    · rename_i hr
      cases h1
      obtain ⟨rfl, rfl⟩ := hq
      rw [sC, sK]
      have hwz : zw (.inl z) := hw _ List.mem_cons_self
      cases hre : M.2.2.2.2.2.2.2 with
      | none => rw [hre] at hr; cases hr
      | some ty =>
        rw [hre] at hr
        exact W.zret F.1 F.2.1 (F.2.2.2.2.2.1.trans hre) (zfit_ok hwz hr).1 (zend hz hP hS (fun w h => by cases h; exact hwz)) hS.2.2 hd F.2.2.2.2.2.2.1
    · cases h1
  -- areturn
  · rename_i r
    split at h1
    · rename_i hr
      cases h1
      obtain ⟨rfl, rfl⟩ := hq
      rw [sC, sK]
      cases hre : M.2.2.2.2.2.2.2 with
      | none => rw [hre] at hr; cases hr
      | some ty =>
        rw [hre] at hr
        refine W.aret F.1 F.2.1 (F.2.2.2.2.2.1.trans hre) ?_ ?_ (zend (v := some (.inr r)) hz hP hS (fun w h => by cases h; exact trivial)) hS.2.2 hd F.2.2.2.2.2.2.1
        · cases ty <;> simp only [zretok, zfit, Bool.false_eq_true] at hr <;> simp
        · cases r with
          | none => exact Or.inl rfl
          | some a => exact Or.inr ⟨a, rfl⟩
    · cases h1
  -- return
  · split at h1
    · rename_i hr
      cases h1
      obtain ⟨rfl, rfl⟩ := hq
      rw [sC, sK]
      exact W.vret F.1 F.2.1 (F.2.2.2.2.2.1.trans hr) (zend (v := none) hz hP hS (fun w h => by cases h)) hS.2.2 hd F.2.2.2.2.2.2.1
    · cases h1
  -- invokestatic
  · rename_i idx
    split at h1
    · rename_i n ci M' hm
      split at h1
      · rename_i hn
        cases h1
        exact go (n := n) (okM hm (by decide)) (fun a ha => hw a (List.mem_of_mem_take (List.mem_reverse.mp ha))) (fun a ha => hw a (List.mem_of_mem_drop ha)) hq (fun w σ1 hR hM => zc_S F KS hfr hlo hz hn0 hP hS hls hm hn hM hd hR)
      · cases h1
    · rename_i hm
      split at h1
      · rename_i n dp a sp b st0 _
        split at h1
        · rename_i t0 N0 f9 t1 N1 g9 hb9 ha9
          split at h1
          · rename_i hcs
            obtain ⟨ht, c1, c2, c3, c4, c5, c6, c7, c8, c9, c10⟩ := hcs
            cases h1
            subst ht
            obtain ⟨d1, d2, d3, d4⟩ := hP _ _ hb9
            obtain ⟨d5, d6, d7, d8⟩ := hP _ _ ha9
            rcases d4 with ⟨-, cA0, y1, y2⟩ | ⟨y1, -⟩
            · rcases d8 with ⟨-, cA1, y3, y4⟩ | ⟨y1, -⟩
              · obtain ⟨sp9, rfl⟩ := Int.eq_ofNat_of_zero_le c1
                obtain ⟨dp9, rfl⟩ := Int.eq_ofNat_of_zero_le c2
                obtain ⟨n9, rfl⟩ := Int.eq_ofNat_of_zero_le c3
                simp only [List.forall_mem_cons] at hw
                have cn : ∀ {z : Nat}, zR (z : Int) → (Int32.ofInt (z : Int)).toNatClampNeg = z ∧ ¬ Int32.ofInt (z : Int) < 0 := fun {z} hr => ⟨by show (Int32.ofInt _).toInt.toNat = _; rw [zI_toInt hr]; rfl, by rw [zI_0, zI_lt hr zR0]; omega⟩
                obtain ⟨x1, x2⟩ := cn hw.1
                obtain ⟨x3, x4⟩ := cn hw.2.1
                obtain ⟨x5, x6⟩ := cn hw.2.2.2.1
                have hw9 := zkm_w _ (zkm_mem hm)
                have w1 := F.2.2.2.2.1 _ (hw9 _ List.mem_cons_self)
                have w2 := F.2.2.2.2.1 _ (hw9 _ (List.mem_cons_of_mem _ List.mem_cons_self))
                have w3 := F.2.2.2.2.1 _ (hw9 _ (List.mem_cons_of_mem _ (List.mem_cons_of_mem _ List.mem_cons_self)))
                have w4 := F.2.2.2.2.1 _ (hw9 _ (List.mem_cons_of_mem _ (List.mem_cons_of_mem _ (List.mem_cons_of_mem _ List.mem_cons_self))))
                refine zW_copy F.1 F.2.1 (F.2.2.1.trans hls.symm) F.2.2.2.1 w1 w2 w3 w4 y1 y3 y2 y4 ?_ x6 x4 x2 (by rw [x5, x1]; omega) (by rw [x3, x1]; omega) (fun i hi => ?_) (by omega) ?_ hd fun H1 L1 e1 e2 e3 e4 => ?_
                · rcases (show t0 = 0 ∨ t0 = 1 ∨ t0 = 2 by omega) with rfl | rfl | rfl <;> rfl
                · rw [x1] at hi
                  rw [x5]
                  have := d3 (sp9 + i) (by omega)
                  exact (zfit_ok (v := .inl _) this.1 this.2).2
                · rw [zcats]
                  have : nativeFrameWords "java/lang/System" "arraycopy" 5 = 7 := by decide
                  omega
                · rw [x1, x3, x5, zcpy_ok] at e1
                  have k := ih M (pc + 3) L st0 _ v σ' hq p e R s m args below meth c H1 (locs ++ L1) cells slots ls F KS hfr hlo (by rw [e2]; exact hz) hn0 (hP.upd (fun q hq9 _ => e3 q hq9) ⟨d5, d6, fun j hj => by
                    unfold zcp
                    split
                    · exact d3 _ (by omega)
                    · exact d7 j hj, Or.inl ⟨c6, cA1, e1, y4⟩⟩) hw.2.2.2.2.2 hL hLl ⟨by rw [e2]; exact hS.1, fun q g1 g2 => by
                    rw [e3 q (fun e => g2 (by rw [e]; exact c6))]
                    exact hS.2.1 q g1 g2, fun q hq9 => by
                    rcases List.mem_append.mp hq9 with h | h
                    · exact hS.2.2 q h
                    · show n0 ≤ q.base
                      rw [e4 q h]
                      exact c6⟩ hc hk
                  exact k
              · omega
            · omega
          · cases h1
        · cases h1
      · cases h1
    · cases h1
  -- invokevirtual
  · rename_i idx
    split at h1
    · rename_i kd n ci M' hm
      split at h1
      · rename_i b rest hst
        split at h1
        · rename_i cj fs ho
          split at h1
          · rename_i hcs
            obtain ⟨hkd, hci, hn⟩ := hcs
            subst hci
            cases h1
            have hmem : ∀ x ∈ .inr (some b) :: rest, x ∈ st := fun x hx => List.mem_of_mem_drop (hst ▸ hx)
            exact go (n := n) (okM hm (by omega)) (fun a ha => by
              rcases List.mem_cons.mp ha with rfl | ha
              · exact trivial
              · exact hw a (List.mem_of_mem_take (List.mem_reverse.mp ha))) (fun a ha => hw a (hmem a (List.mem_cons_of_mem _ ha))) hq (fun w σ1 hR hM => zc_V F KS hfr hlo hz hn0 hP hS hls hm hkd hst ho hn hM hd hR)
          · cases h1
        · cases h1
      · cases h1
    · cases h1
  -- invokespecial
  · rename_i idx
    split at h1
    · rename_i kd n ci M' hm
      split at h1
      · rename_i b rest hst
        have hmem : ∀ x ∈ .inr (some b) :: rest, x ∈ st := fun x hx => List.mem_of_mem_drop (hst ▸ hx)
        have hwas : ∀ a ∈ .inr (some b) :: (st.take n).reverse, zw a := fun a ha => by
          rcases List.mem_cons.mp ha with rfl | ha
          · exact trivial
          · exact hw a (List.mem_of_mem_take (List.mem_reverse.mp ha))
        have hwr : ∀ a ∈ rest, zw a := fun a ha => hw a (hmem a (List.mem_cons_of_mem _ ha))
        split at h1
        · rename_i hk6
          subst hk6
          split at h1
          · rename_i hn
            obtain ⟨rfl, hn⟩ := hn
            cases h1
            have hw9 := zkm_w _ (zkm_mem hm)
            have w1 := F.2.2.2.2.1 _ (hw9 _ List.mem_cons_self)
            have w2 := F.2.2.2.2.1 _ (hw9 _ (List.mem_cons_of_mem _ List.mem_cons_self))
            have w3 := F.2.2.2.2.1 _ (hw9 _ (List.mem_cons_of_mem _ (List.mem_cons_of_mem _ List.mem_cons_self)))
            rw [List.drop_zero] at hst
            subst hst
            refine W.objInit F.1 F.2.1 F.2.2.2.1 w1 w2 w3 rfl (by rw [F.2.2.1]; exact hls) rfl hd (by omega) (by
              show 2 * 0 + _ + 12 ≤ _
              rw [zcats]
              omega) ?_
            exact ih M (pc + 3) L rest σ v σ' hq p e R s m args below meth c H locs cells slots ls F KS hfr hlo hz hn0 hP hwr hL hLl hS hc hk
          · cases h1
        · split at h1
          · rename_i hkd
            split at h1
            · rename_i hn
              cases h1
              exact go (n := n) (okM hm (by omega)) hwas hwr hq (fun w σ1 hR hM => zc_I F KS hfr hlo hz hn0 hP hS hls hm hkd hst hn hM hd hR)
            · cases h1
          · split at h1
            · rename_i cj fs ho
              split at h1
              · rename_i hcs
                obtain ⟨rfl, rfl, hn⟩ := hcs
                cases h1
                exact go (n := n) (okM hm (by decide)) hwas hwr hq (fun w σ1 hR hM => zc_U F KS hfr hlo hz hn0 hP hS hls hm hst ho hn hM hd hR)
              · cases h1
            · cases h1
      · cases h1
    · cases h1
  · cases h1
end ZSG
/-- THE SMALL MACHINE'S RUN IS THE BIG ONE'S -/
theorem zmain (l : Launch) (n0 : Nat) (D : va_G) (g : Nat → zV) : ∀ f : Nat, zSt l n0 D g f
  | 0 => fun M pc L st σ v σ' h => by simp [zrun] at h
  | f + 1 => by
    have ih := zmain l n0 D g f
    intro M pc L st σ v σ' h p e R s m args below meth c H locs cells slots ls F KS hfr hlo hz hn0 hP hw hL hLl hS hc hk
    rw [zrun] at h
    cases hd : decode M.1 pc with
    | error e => rw [hd] at h; cases h
    | ok q =>
      obtain ⟨ins, len⟩ := q
      rw [hd] at h
      dsimp only at h
      cases hs : zstep n0 g zkf zks zkk zkc zkm ins len M pc L st σ with
      | none => rw [hs] at h; cases h
      | some q =>
        rw [hs] at h
        rcases zstep_inv hs with ⟨L', st', h1, rfl⟩ | ⟨pc', st', h1, rfl⟩ | ⟨st', σ1, h1, rfl⟩ | h1
        · refine zA_ok F.1 F.2.1 h1 hd hL hw fun ls' hL' hw' => ?_
          exact ih M _ L' st' σ v σ' h p e R s m args below meth c H locs cells slots ls' F KS hfr hlo hz hn0 hP hw' hL' (by rw [zA_len h1]; exact hLl) hS hc hk
        · refine zB_ok F.1 F.2.1 h1 hd hw fun hw' => ?_
          exact ih M pc' L st' σ v σ' h p e R s m args below meth c H locs cells slots ls F KS hfr hlo hz hn0 hP hw' hL hLl hS hc hk
        · have g1 := zD_grow h1
          have g2 := zrun_grow f _ _ _ _ _ _ _ h
          refine zD_ok F KS h1 hd hw hP hz hS hn0 ⟨by omega, by omega⟩ fun H' locs' z1 P1 S1 w1 => ?_
          have k := ih M _ L st' σ1 v σ' h p e R s m args below meth c H' locs' (cells + (σ1.1 - σ.1)) (slots + (σ1.2.1 - σ.2.1)) ls F KS hfr hlo z1 hn0 P1 w1 hL hLl S1 (by omega) (by omega)
          have e1 : cells + (σ1.1 - σ.1) + (σ'.1 - σ1.1) = cells + (σ'.1 - σ.1) := by omega
          have e2 : slots + (σ1.2.1 - σ.2.1) + (σ'.2.1 - σ1.2.1) = slots + (σ'.2.1 - σ.2.1) := by omega
          rw [e1, e2] at k
          exact k
        · refine zE_ok ih h1 hd ?_ F KS hfr hlo hz hn0 hP hw hL hLl hS hc hk
          rcases q with ⟨pc', L', st', σ1⟩ | ⟨M', as, rest⟩ | w
          · exact h
          · dsimp only at h ⊢
            by_cases hl : as.length ≤ M'.2.1
            · rw [if_pos hl] at h
              refine ⟨hl, ?_⟩
              cases hc9 : zrun n0 g zkf zks zkk zkc zkm f M' 0 (zloc M' as) [] σ with
              | none => rw [hc9] at h; cases h
              | some q =>
                obtain ⟨w, σ1⟩ := q
                rw [hc9] at h
                exact ⟨w, σ1, rfl, h⟩
            · rw [if_neg hl] at h; cases h
          · cases h
            exact ⟨rfl, rfl⟩
