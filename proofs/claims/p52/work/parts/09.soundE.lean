/-! ===== calls and returns; the whole run ===== -/
theorem zgood : GoodIn zT zT := fun w h => ⟨h, good_of_word (List.mem_filter.mp h).2⟩
theorem zgoodM {M : zM} (h : zcode M ∈ zT) : GoodIn zT (zcode M :: zT) := fun w hw => by
  rcases List.mem_cons.mp hw with rfl | hw
  · exact zgood _ h
  · exact zgood _ hw
def zMok (M : zM) : Prop := zcode M ∈ zT ∧ plainFor M.2.2.2.2.2.2.1 = true ∧ zcn M.2.2.1 = M.2.2.2.2.2.2.1.cls ∧ (M.2.2.2.1 = true ↔ M.2.2.2.2.2.2.1.name = "<init>")
theorem zAO_arrM {ty : FieldType} {u U : State} (hvm : u.vm.Alike U.vm) (h : (Cond.arrayOver (.array ty)).before #[] u = true) : (Cond.arrayOver (.array ty)).before #[] U = true := by
  obtain ⟨comp, c, k, h1, h2, h3, h4, h5⟩ := arrayOverA_spec h
  obtain ⟨k', hk', he⟩ := hvm.2.2 _ _ h3
  have hi : (U.vm.classes.findIdx? fun (x : Class) => match x.kind with | .array component _ => component == comp | _ => false) = some c := by
    have h9 := va_idx_bare U.vm comp
    have h8 := va_idx_bare u.vm comp
    first
      | (rw [hvm.bare_eq] at h8; exact h9.symm.trans (h8.trans h2))
      | (rw [← hvm.bare_eq] at h8; exact h9.symm.trans (h8.trans h2))
  have hkind : k'.kind = .array comp (.array ty) := by rw [he]; exact h4
  have f1 : U.vm.findClass (FieldType.array ty).toString = some comp := by rw [hvm.findClass]; exact h1
  have f2 : U.vm.findClass ("[" ++ (FieldType.array ty).toString) = some c := by rw [hvm.findClass]; exact h5
  unfold Cond.before Cond.holds
  simp only [Cond.value]
  rw [f1, Option.bind_some]
  refine (congrArg (fun o : Option Nat => (o.bind (fun c => (U.vm.classes[c]?).map fun (k : Class) => match k.kind with | .array _ ty9 => decide (ty9 = FieldType.array ty) && decide (U.vm.findClass ("[" ++ (FieldType.array ty).toString) = some c) | _ => false) == some true)) hi).trans ?_
  simp [hk', hkind, f2]
theorem KK.warm {n0 : Nat} {D : va_G} {g : Nat → zV} {s U : State} (hW : s.WarmedH U.vm) (hH : ∀ q : Nat, q < s.heap.size → ¬ n0 ≤ q → U.heap[q]? = s.heap[q]?) (h : KK n0 D g s) : KK n0 D g U := by
  obtain ⟨h1, h2, h3, h4⟩ := h
  have hal := hW.alike
  refine ⟨va_K.moved hal h1, fun w hw => ?_, fun w hw => ?_, fun j hj => ⟨((h4 j hj).1.moved hal).kept (fun a h5 h6 => hH a h5 h6), (h4 j hj).2⟩⟩
  · obtain ⟨r, hr, rfl⟩ := List.mem_map.mp hw
    exact va_Nw.warmM hW (h2 _ hw)
  · have h9 := h3 w hw
    rcases List.mem_cons.mp hw with rfl | hw
    · exact va_AO.moved hal h9
    rcases List.mem_cons.mp hw with rfl | hw
    · exact va_AO.moved hal h9
    rcases List.mem_cons.mp hw with rfl | hw
    · exact va_AO.moved hal h9
    rcases List.mem_cons.mp hw with rfl | hw
    · exact zAO_arrM hal h9
    · exact absurd hw List.not_mem_nil
/-- a method's start and end, for one run of the small machine -/
def zPc (n0 : Nat) (D : va_G) (g : Nat → zV) (σ : zS) (av : List Value) : Array Value → State → Prop := va_Pc av (fun U => U.heap.size = σ.1 ∧ KK n0 D g U ∧ zP n0 D U U.heap σ.2.2 ∧ n0 ≤ σ.1)
def zQc (n0 : Nat) (D : va_G) (v : Option zV) (σ' : zS) : Array Value → State → Outcome → State → Prop := fun _ st o t => o = .returned (v.map zv) ∧ t.heap.size = σ'.1 ∧ zP n0 D t t.heap σ'.2.2 ∧ va_F (fun q => n0 ≤ q) st t ∧ ∀ w, v = some w → zw w
theorem zPc_blind {n0 : Nat} {D : va_G} {g : Nat → zV} {σ : zS} {av : List Value} : FrameBlind (zPc n0 D g σ av) := fun a U gg mk h => by
  obtain ⟨h0, h1, ⟨k1, k2, k3, k4⟩, h3, h4⟩ := h
  refine ⟨h0, h1, ⟨va_K.moved (u := U) (U := U.calling gg mk a) (Vm.Alike.refl U.vm) k1, fun w hw => ?_, fun w hw => ?_, fun j hj => ⟨va_Z.moved (u := U) (U := U.calling gg mk a) (Vm.Alike.refl U.vm) (k4 j hj).1, (k4 j hj).2⟩⟩, zP.moved (s := U) (U := U.calling gg mk a) (Vm.Alike.refl U.vm) h3, h4⟩
  · obtain ⟨r, hr, rfl⟩ := List.mem_map.mp hw
    exact va_Nw.same (u := U) (U := U.calling gg mk a) rfl rfl (k2 _ hw)
  · have h9 := k3 w hw
    rcases List.mem_cons.mp hw with rfl | hw
    · exact va_AO.moved (u := U) (U := U.calling gg mk a) (Vm.Alike.refl U.vm) h9
    rcases List.mem_cons.mp hw with rfl | hw
    · exact va_AO.moved (u := U) (U := U.calling gg mk a) (Vm.Alike.refl U.vm) h9
    rcases List.mem_cons.mp hw with rfl | hw
    · exact va_AO.moved (u := U) (U := U.calling gg mk a) (Vm.Alike.refl U.vm) h9
    rcases List.mem_cons.mp hw with rfl | hw
    · exact zAO_arrM (u := U) (U := U.calling gg mk a) (Vm.Alike.refl U.vm) h9
    · exact absurd hw List.not_mem_nil
theorem zMetW {l : Launch} {y : MethodName} {ws ws' : List Cond} {rm : Room} {Pc : Array Value → State → Prop} {Qc : Array Value → State → Outcome → State → Prop} {mc ms : Nat} {free : Addr → Prop} {cc : ByteArray} {maxL : Nat} {ret : Option FieldType}
    (hy : plainFor y = true) (hw : ws = Cond.code y cc maxL ret :: ws')
    (body : ∀ p e s m args below meth c s₁, BodyLoose p l y (headSpec ws rm) cc maxL ret e s m args below meth c s₁ → c.maxLocals = maxL → Pc args s →
      W p l e (headSpec ws rm).room s m args below meth c s.heap [] 0 0 (MQ below Qc args s mc ms free) (entryFrame m args maxL)) : Met l y ws rm Pc Qc mc ms free := by
  refine MetFree.of_bodySF (code := cc) (maxLocals := maxL) (ret := ret) hy ?_ ?_
  · intro args s m h hn
    obtain ⟨meth, c, h1, h2, h3, h4, h5, h6, -, -⟩ := Cond.code_spec hn (atoms_spec (ws := ws) h _ (by rw [hw]; exact List.mem_cons_self))
    exact ⟨meth, c, h1, h2, h3, h4, h5, h6⟩
  · intro p e s m args below meth c s₁ B hml hP _
    have hh0 : s₁.heap = s.heap := by rw [B.state]; rfl
    obtain ⟨t, a1, o, b1, b2, b3⟩ := body p e s m args below meth c s₁ B hml hP s₁ hh0 (Stand.of_body B)
    exact ⟨t, o, a1, b1, b2, ⟨b3.1, b3.2⟩⟩
theorem zcats (rest : List zV) : ((rest.map zv).map fun v => v.category).sum = rest.length := by
  induction rest with
  | nil => rfl
  | cons v t ih => rw [List.map_cons, List.map_cons, List.sum_cons, ih, zv_cat, List.length_cons]; omega
theorem zargs (st : List zV) (n : Nat) : st.map zv = (((st.take n).reverse).map zv).reverse ++ (st.drop n).map zv := by
  rw [← List.map_reverse, List.reverse_reverse, ← List.map_append, List.take_append_drop]
theorem zA_len {ins : Instr} {len : Nat} {L L' : List (Option zV)} {st st' : List zV} (h : zA ins len L st = some (L', st')) : L'.length = L.length := by
  unfold zA at h
  split at h <;> (try split at h) <;> (try split at h) <;> (try cases h) <;> first | rfl | exact List.length_set
theorem zD_grow {n0 : Nat} {g : Nat → zV} {tf : zTf} {ts tk : zTn} {tc : zTc} {ins : Instr} {len : Nat} {M : zM} {st st' : List zV} {σ σ' : zS} (h : zD n0 g tf ts tk tc ins len M st σ = some (st', σ')) : σ.1 ≤ σ'.1 ∧ σ.2.1 ≤ σ'.2.1 := by
  unfold zD at h
  split at h <;> (try split at h) <;> (try split at h) <;> (try split at h) <;> (try cases h) <;> (constructor <;> simp only [Nat.le_refl] <;> omega)
theorem zE_stay {n0 : Nat} {tm : zTm} {ins : Instr} {len pc pc' : Nat} {M : zM} {L L' : List (Option zV)} {st st' : List zV} {σ σ' : zS} (h : zE n0 tm ins len M pc L st σ = some (.inl (pc', L', st', σ'))) : σ'.1 = σ.1 ∧ σ'.2.1 = σ.2.1 ∧ L' = L ∧ pc' = pc + 3 := by
  unfold zE at h
  repeat' split at h
  all_goals first | (cases h; exact ⟨rfl, rfl, rfl, rfl⟩) | (simp at h; done)
theorem zstep_inv {n0 : Nat} {g : Nat → zV} {tf : zTf} {ts tk : zTn} {tc : zTc} {tm : zTm} {ins : Instr} {len pc : Nat} {M : zM} {L : List (Option zV)} {st : List zV} {σ : zS} {q : zQq} (h : zstep n0 g tf ts tk tc tm ins len M pc L st σ = some q) :
    (∃ L' st', zA ins len L st = some (L', st') ∧ q = .inl (pc + len, L', st', σ)) ∨ (∃ pc' st', zB ins len pc st = some (pc', st') ∧ q = .inl (pc', L, st', σ)) ∨ (∃ st' σ', zD n0 g tf ts tk tc ins len M st σ = some (st', σ') ∧ q = .inl (pc + len, L, st', σ')) ∨ zE n0 tm ins len M pc L st σ = some q := by
  unfold zstep at h
  split at h
  · rename_i L' st' h1
    cases h
    exact Or.inl ⟨_, _, h1, rfl⟩
  · split at h
    · rename_i pc' st' h1
      cases h
      exact Or.inr (Or.inl ⟨_, _, h1, rfl⟩)
    · split at h
      · rename_i st' σ' h1
        cases h
        exact Or.inr (Or.inr (Or.inl ⟨_, _, h1, rfl⟩))
      · exact Or.inr (Or.inr (Or.inr h))
theorem zrun_grow {n0 : Nat} {g : Nat → zV} {tf : zTf} {ts tk : zTn} {tc : zTc} {tm : zTm} : ∀ (f : Nat) (M : zM) (pc : Nat) (L : List (Option zV)) (st : List zV) (σ : zS) (v : Option zV) (σ' : zS), zrun n0 g tf ts tk tc tm f M pc L st σ = some (v, σ') → σ.1 ≤ σ'.1 ∧ σ.2.1 ≤ σ'.2.1
  | 0, _, _, _, _, _, _, _, h => by simp [zrun] at h
  | f + 1, M, pc, L, st, σ, v, σ', h => by
    rw [zrun] at h
    cases hd : decode M.1 pc with
    | error e => rw [hd] at h; cases h
    | ok q =>
      obtain ⟨ins, len⟩ := q
      rw [hd] at h
      dsimp only at h
      cases hs : zstep n0 g tf ts tk tc tm ins len M pc L st σ with
      | none => rw [hs] at h; cases h
      | some q =>
        rw [hs] at h
        rcases q with ⟨pc', L', st', σ1⟩ | ⟨M', as, rest⟩ | w
        · have h1 := zrun_grow f _ _ _ _ _ _ _ h
          have h2 : σ.1 ≤ σ1.1 ∧ σ.2.1 ≤ σ1.2.1 := by
            rcases zstep_inv hs with ⟨_, _, _, e⟩ | ⟨_, _, _, e⟩ | ⟨_, _, e1, e⟩ | e
            · cases e; exact ⟨Nat.le_refl _, Nat.le_refl _⟩
            · cases e; exact ⟨Nat.le_refl _, Nat.le_refl _⟩
            · cases e; exact zD_grow e1
            · obtain ⟨a, b, -⟩ := zE_stay e
              omega
          omega
        · dsimp only at h
          by_cases hl : as.length ≤ M'.2.1
          · rw [if_pos hl] at h
            cases hc : zrun n0 g tf ts tk tc tm f M' 0 (zloc M' as) [] σ with
            | none => rw [hc] at h; cases h
            | some q =>
              obtain ⟨w, σ1⟩ := q
              rw [hc] at h
              have h1 := zrun_grow f _ _ _ _ _ _ _ hc
              have h2 := zrun_grow f _ _ _ _ _ _ _ h
              omega
          · rw [if_neg hl] at h; cases h
        · cases h; exact ⟨Nat.le_refl _, Nat.le_refl _⟩
theorem lv_args_at : ∀ (vs : List Value) (k i : Nat) (v : Value), (∀ x ∈ vs, x.category = 1) → vs[i]? = some v → (k + i, v) ∈ lv_args k vs
  | [], _, _, _, _, h => by simp at h
  | x :: vs, k, 0, v, _, h => by
    simp only [List.getElem?_cons_zero, Option.some.injEq] at h
    subst h
    exact List.mem_cons_self
  | x :: vs, k, i + 1, v, hc, h => by
    rw [List.getElem?_cons_succ] at h
    have h1 := hc x List.mem_cons_self
    unfold lv_args
    rw [if_neg (by omega), show k + (i + 1) = (k + 1) + i by omega]
    exact List.mem_cons_of_mem _ (lv_args_at vs (k + 1) i v (fun y hy => hc y (List.mem_cons_of_mem _ hy)) h)
theorem lg_sl_len (as : List zV) : (lg_sl (as.map zv)).length = as.length := by
  induction as with
  | nil => rfl
  | cons a t ih =>
    unfold lg_sl at ih ⊢
    rw [List.map_cons, List.flatMap_cons, List.length_append, ih, if_neg (by rw [zv_cat]; decide), List.length_cons]
    simp only [List.length_cons, List.length_nil]
    omega
theorem zloc_ok {M : zM} {as : List zV} {ls : Array Slot} (hl : as.length ≤ M.2.1) (hw : ∀ a ∈ as, zw a) (h : lv_has ls M.2.1 (lv_args 0 (as.map zv))) : zL (zloc M as) ls := by
  refine ⟨?_, h.2.1, fun i v hi => ?_⟩
  · rw [h.1, zloc, List.length_append, List.length_map, List.length_replicate]; omega
  · unfold zloc at hi
    by_cases hlt : i < as.length
    · rw [List.getElem?_append_left (by rw [List.length_map]; exact hlt), List.getElem?_map] at hi
      obtain ⟨a, ha, he⟩ := Option.map_eq_some_iff.mp hi
      cases he
      refine ⟨h.2.2 (i, zv v) ?_, hw _ (List.mem_of_getElem? ha)⟩
      have := lv_args_at (as.map zv) 0 i (zv v) (fun x hx => by
        obtain ⟨y, -, rfl⟩ := List.mem_map.mp hx
        exact zv_cat y) (by rw [List.getElem?_map, ha]; rfl)
      rwa [Nat.zero_add] at this
    · rw [List.getElem?_append_right (by rw [List.length_map]; omega)] at hi
      have := List.mem_of_getElem? hi
      rw [List.mem_replicate] at this
      exact absurd this.2 (by simp)
/-- what one run of the small machine says of the big one -/
def zSt (l : Launch) (n0 : Nat) (D : va_G) (g : Nat → zV) (f : Nat) : Prop :=
  ∀ (M : zM) (pc : Nat) (L : List (Option zV)) (st : List zV) (σ : zS) (v : Option zV) (σ' : zS), zrun n0 g zkf zks zkk zkc zkm f M pc L st σ = some (v, σ') →
    ∀ (p : Program) (e : Env) (R : Room) (s : State) (m : MethodId) (args : Array Value) (below : List Frame) (meth : Method) (c : Code) (H : Heap) (locs : List Loc) (cells slots : Nat) (ls : Array Slot), zFx p m c meth M s args → KK n0 D g s → M.2.2.2.2.1 ≤ R.frames → M.2.2.2.2.2.1 ≤ R.locals → H.size = σ.1 → n0 ≤ s.heap.size → zP n0 D s H σ.2.2 → (∀ v ∈ st, zw v) → zL L ls → L.length = M.2.1 → va_S (fun q => n0 ≤ q) s.heap H locs →
      cells + (σ'.1 - σ.1) ≤ R.cells → slots + (σ'.2.1 - σ.2.1) ≤ R.slots → W p l e R s m args below meth c H locs cells slots (MQ below (zQc n0 D v σ') args s (cells + (σ'.1 - σ.1)) (slots + (σ'.2.1 - σ.2.1)) (fun q => n0 ≤ q)) (F0 m pc ls (st.map zv))
/-- a method's contract out of one run -/
theorem zMet {l : Launch} {n0 : Nat} {D : va_G} {g : Nat → zV} {f : Nat} (ih : zSt l n0 D g f) {M : zM} {as : List zV} {σ σ' : zS} {v : Option zV} (h : zrun n0 g zkf zks zkk zkc zkm f M 0 (zloc M as) [] σ = some (v, σ')) (ok : zMok M) (hl : as.length ≤ M.2.1) (hw : ∀ a ∈ as, zw a) :
    Met l M.2.2.2.2.2.2.1 (zcode M :: zT) { frames := M.2.2.2.2.1, cells := σ'.1 - σ.1, slots := σ'.2.1 - σ.2.1, locals := M.2.2.2.2.2.1 } (zPc n0 D g σ (as.map zv)) (zQc n0 D v σ') (σ'.1 - σ.1) (σ'.2.1 - σ.2.1) (fun q => n0 ≤ q) := by
  obtain ⟨ok1, ok2, ok3, ok4⟩ := ok
  refine zMetW (cc := M.1) (maxL := M.2.1) (ret := M.2.2.2.2.2.2.2) ok2 rfl ?_
  intro p e s m args below meth c s₁ B hml hv
  obtain ⟨rfl, hsz, hK, hP, hn⟩ := hv
  have hts := atoms_spec (ws := zcode M :: zT) B.pre
  have hown : s.vm.findClass (zcn M.2.2.1) = some m.cls := by rw [ok3]; exact findClass_of_methodNamed B.named
  have hlv := lv_entry (as.map zv) (n := M.2.1) (by rw [lg_sl_len]; exact hl)
  rw [lg_entry_eq]
  generalize ((lg_sl (as.map zv) ++ List.replicate (M.2.1 - (lg_sl (as.map zv)).length) Slot.unset).toArray) = ls at hlv ⊢
  have hin : M.2.2.2.1 = true → meth.name = "<init>" := fun h9 => ((name_of_methodNamed B.named B.method).1).trans (ok4.mp h9)
  have := ih M 0 (zloc M as) [] σ v σ' h p e (headSpec (zcode M :: zT) { frames := M.2.2.2.2.1, cells := σ'.1 - σ.1, slots := σ'.2.1 - σ.2.1, locals := M.2.2.2.2.2.1 }).room s m (as.map zv).toArray below meth c s.heap [] 0 0 ls ⟨B.exec, B.bytes, hml, hown, fun w hw9 => hts w (List.mem_cons_of_mem _ hw9), B.returns, B.notSynchronized, hin⟩ hK (Nat.le_refl _) (Nat.le_refl _) hsz (by rw [hsz]; exact hn) hP (fun _ h9 => absurd h9 List.not_mem_nil) (zloc_ok hl hw hlv) (by rw [zloc, List.length_append, List.length_map, List.length_replicate]; omega) va_S.rf (by rw [Nat.zero_add]; exact Nat.le_refl _) (by rw [Nat.zero_add]; exact Nat.le_refl _)
  rw [Nat.zero_add, Nat.zero_add] at this
  exact this
section ZSE
variable {p : Program} {l : Launch} {e : Env} {R : Room} {s : State} {m : MethodId} {args : Array Value} {below : List Frame} {meth : Method} {c : Code} {H : Heap} {locs : List Loc} {cells slots : Nat} {Q : State → Prop}
/-- behind a call -/
theorem zgo_on {n0 : Nat} {D : va_G} {v1 : Option zV} {σ1 : zS} {mc ms pc : Nat} {ls : Array Slot} {st0 : List Value} {rest : List zV} {a : Array Value} (hr : va_Run p l e R s m args below meth c H locs cells slots mc ms (F0 m pc ls st0) (rest.map zv) (zQc n0 D v1 σ1 a) (fun q => n0 ≤ q)) (hS : va_S (fun q => n0 ≤ q) s.heap H locs)
    (kk : ∀ (H1 : Heap) (locs1 : List Loc), H1.size = σ1.1 → zP n0 D s H1 σ1.2.2 → va_S (fun q => n0 ≤ q) s.heap H1 locs1 → (∀ w, v1 = some w → zw w) → W p l e R s m args below meth c H1 locs1 (cells + mc) (slots + ms) Q (F0 m (pc + 3) ls ((v1.toList ++ rest).map zv))) : W p l e R s m args below meth c H locs cells slots Q (F0 m pc ls st0) := by
  intro T hT X
  obtain ⟨v, st₀, t, T', L, h0, X', hL, e1, e2, ⟨hv, hz, hP, hF, hw⟩, st⟩ := hr T hT X
  have hv := Outcome.returned.inj hv
  subst hv
  obtain ⟨f1, f2⟩ := hF
  rw [h0] at f1 f2
  have hal : t.vm.Alike s.vm := by rw [← e2]; exact X'.warmed.alike.symm
  obtain ⟨t2, a1, b1⟩ := kk T'.heap (locs ++ L) (by rw [e1]; exact hz) (by rw [e1]; exact hP.moved hal) ⟨Nat.le_trans hS.1 (by rw [e1]; exact f1), fun q h1 h2 => by rw [e1, f2 q (Nat.lt_of_lt_of_le h1 hS.1) h2]; exact hS.2.1 q h1 h2, fun q hq => by
      rcases List.mem_append.mp hq with h | h
      · exact hS.2.2 q h
      · exact hL q h⟩ hw T' rfl X'
  refine ⟨t2, st t2 ?_, b1⟩
  cases v1 with
  | none => exact a1
  | some w => exact a1
theorem zpre {n0 : Nat} {D : va_G} {g : Nat → zV} {σ : zS} {av : List Value} (KS : KK n0 D g s) (hP : zP n0 D s H σ.2.2) (hz : H.size = σ.1) (hS : va_S (fun q => n0 ≤ q) s.heap H locs) (hn0 : n0 ≤ s.heap.size) : ∀ U : State, U.heap = H → s.WarmedH U.vm → zPc n0 D g σ av av.toArray U := fun U hU hW =>
  ⟨rfl, by rw [hU]; exact hz, KS.warm hW (fun q h1 h2 => by rw [hU]; exact hS.2.1 q h1 h2), by rw [hU]; exact hP.moved hW.alike, by have := hS.1; omega⟩
end ZSE
