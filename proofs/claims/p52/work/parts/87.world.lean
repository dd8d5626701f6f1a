/-! ===== what the launch gives, in the small machine's words: printed by wip/p52/mkend.py ===== -/
theorem z_in {i : Nat} {w : Cond} (h : lw_tbl[i]? = some w) : w ∈ lw_tbl := List.mem_of_getElem? h
theorem zT0_ok {s : State} {args : Array Value} (hts : ∀ w ∈ lw_tbl, w.before args s = true) : ∀ w ∈ zT0, w.before args s = true := by
  intro w hw
  rcases List.mem_append.mp hw with h | h
  · exact absurd h List.not_mem_nil
  · exact hts w h
theorem zT_ok {s : State} {args : Array Value} (hts : ∀ w ∈ lw_tbl, w.before args s = true) : ∀ w ∈ zT, w.before args s = true := fun w hw => zT0_ok hts w (List.mem_filter.mp hw).1
theorem z_classes {s : State} {args : Array Value} (hts : ∀ w ∈ lw_tbl, w.before args s = true) : ∃ D : va_G, va_K D vwCl [] s := by
  have hT := zT_ok hts
  have h : ∀ ci, ∃ q : ClassId × (Nat → Nat), ci < 11 → u_Kn s (zcl ci).1 (zcl ci).2.1 (zcl ci).2.2 q.1 q.2 := fun ci => by
    by_cases hc : ci < 11
    · have h1 := zcl_w ci (List.mem_range.mpr hc)
      obtain ⟨cC, iS, hk⟩ := u_known (ws := zT) (args := args) (s := s) (C := (zcl ci).1) (T := (zcl ci).2.1) (N := (zcl ci).2.2) (n := (zcl ci).2.2) hT (fun w hw => h1 w (List.mem_cons_of_mem _ (List.mem_cons_of_mem _ hw))) (hT _ (h1 _ List.mem_cons_self))
      exact ⟨(cC, iS), fun _ => hk⟩
    · exact ⟨(0, fun _ => 0), fun x => absurd x hc⟩
  have hf := fun ci => Classical.choose_spec (h ci)
  refine ⟨(fun ci => (Classical.choose (h ci)).1, fun ci => (Classical.choose (h ci)).2), fun c q hq => ?_, fun k q hq => by simp at hq⟩
  have hc : c < 11 := by
    have := (List.getElem?_eq_some_iff.mp hq).1
    exact this
  have e := zcl_at hc
  rw [e] at hq
  cases hq
  exact hf c hc
theorem z_arr1 {s : State} {c : Cell} {t t' : FieldType} (h : s.isArrayOf c t) (h' : s.isArrayOf c t') : t = t' := by
  obtain ⟨-, k, hk, comp, e⟩ := h
  obtain ⟨-, k', hk', comp', e'⟩ := h'
  rw [hk] at hk'
  cases hk'
  rw [e] at e'
  cases e'
  rfl
abbrev zGN : Cond := Jvm.Cond.and given_1 narrow_1
def zprf (j : Nat) : Int := ([2, 3, 5, 7, 11, 13, 17, 19, 23, 29, 31] : List Int).getD j 0
abbrev zsPR : Term := .static "GroebnerFan" "PRIMES" "[I"
theorem z_gn {s : State} {args : Array Value} (hgv : zGN.before args s = true) {i : Nat} {w : Cond} (h : (flatC zGN)[i]? = some w) : w.before args s = true := flat_of_before _ hgv _ (List.mem_of_getElem? h)
theorem z_el {s : State} {args : Array Value} (hgv : zGN.before args s = true) {t : Term} {N k : Nat} {f : Nat → Int} (h : (List.range N).all (fun j => decide ((flatC zGN)[k + j]? = some (Cond.eq (.elem t (.int (Int32.ofNat j))) (.int (Int32.ofInt (f j)))))) = true) :
    ∀ j : Nat, j < N → (Term.elem t (.int (Int32.ofNat j))).eval args s none [] s = some (.int (Int32.ofInt (f j))) := fun j hj =>
  va_eqt (z_gn hgv (of_decide_eq_true (List.all_eq_true.mp h j (List.mem_range.mpr hj))))
/-- a table of numbers that the launch gives -/
theorem z_tab {s : State} {args : Array Value} (hgv : zGN.before args s = true) {t : Term} {ty : FieldType} {N k k1 k2 : Nat} {f : Nat → Int} (hN : N < 2 ^ 31) (h1 : (flatC zGN)[k1]? = some (Cond.arrayOf t ty)) (h2 : (flatC zGN)[k2]? = some (Cond.eq (.length t) (.int (Int32.ofNat N))))
    (h : (List.range N).all (fun j => decide ((flatC zGN)[k + j]? = some (Cond.eq (.elem t (.int (Int32.ofNat j))) (.int (Int32.ofInt (f j)))))) = true) :
    ∃ a : Nat, t.eval args s none [] s = some (.ref a) ∧ va_T ty a N (fun j => .int (Int32.ofInt (f j))) (fun q => s.heap.size ≤ q) s s.heap :=
  va_Tof hN (z_gn hgv h1) (va_eqt (z_gn hgv h2)) (z_el hgv h) (fun a ha => Nat.not_le.mpr ha)

theorem z_word {s : State} {args : Array Value} {w : Cond} (h : ∀ A A' : Array Value, w.before A s = w.before A' s) (hb : w.before args s = true) : va_Nw w s := by
  unfold va_Nw
  rw [h #[] args]; exact hb
theorem z_world {p : Program} {s : State} {m : MethodId} {meth : Method} {c : Code} {b L : Nat} {xs : Nat → Int32} (hL : L ≤ 260) (C0 : lw_At p s m meth c b L xs) :
    ∃ (D : va_G) (g : Nat → zV) (h0 : zHp), KK s.heap.size D g s ∧ zP s.heap.size D s s.heap h0 ∧ g 0 = .inl 1 ∧ prOk g h0 s.heap.size ∧ h0 b = some (.inr (.inl (0, L, fun j => (xs j).toInt))) := by
  obtain ⟨hx, hb, hr, hml, hown, hts, hX, hbl, hlocks, hgv⟩ := id C0
  have hA : ∀ a : Nat, a < s.heap.size → ¬ (fun q : Nat => s.heap.size ≤ q) a := fun a ha => Nat.not_le.mpr ha
  obtain ⟨D, hD⟩ := z_classes hts
  have hT0 := zT0_ok hts
  obtain ⟨pa, vpa, tpa⟩ := z_tab (t := zsPR) (ty := .int) (N := 11) (k := 8) (k1 := 6) (k2 := 7) (f := zprf) hgv (by decide) (by decide +kernel) (by decide +kernel) (by decide +kernel)
  have z0 : va_Z "java/lang/String" "COMPACT_STRINGS" "Z" (.int 1) (fun q => s.heap.size ≤ q) s s.heap := va_Zof (hts _ (z_in (i := 238) (by decide +kernel))) (hts _ (z_in (i := 29) (by decide +kernel))) (va_eqi (z_gn hgv (i := 4) (by decide +kernel))) hA
  have z1 : va_Z "GroebnerFan" "PRIMES" "[I" (.ref pa) (fun q => s.heap.size ≤ q) s s.heap := va_Zof (hts _ (z_in (i := 516) (by decide +kernel))) (hts _ (z_in (i := 18) (by decide +kernel))) vpa hA
  obtain ⟨cb, b1, b2, b3, b4, b5⟩ := id hX
  obtain ⟨cp, p1, p2, p3, p4, p5, p6, p7⟩ := id tpa
  have lt : ∀ {a : Nat}, ¬ s.heap.size ≤ a → a < s.heap.size := fun h => Nat.not_le.mp h
  have d6 : pa ≠ b := fun e => by
    have h := z_gn hgv (i := 19) (w := Cond.not (Cond.eq (.arg 0) zsPR)) (by decide +kernel)
    rw [e] at vpa
    have e1 : (Term.arg 0).eval #[Value.ref b] s none [] s = some (.ref b) := rfl
    simp only [Cond.before, Cond.holds, Cond.value, vpa, e1] at h
    simp at h
  refine ⟨D, fun j => if j = 0 then .inl 1 else .inr (some pa), fun a => if a = b then some (.inr (.inl (0, L, fun j => (xs j).toInt))) else if a = pa then some (.inr (.inl (0, 11, zprf))) else none, ⟨hD, ?_, ?_, ?_⟩, ?_, rfl, ?_, if_pos rfl⟩
  · intro w hw
    have hb := hT0 w (zNw_in w hw)
    obtain ⟨r, hr, rfl⟩ := List.mem_map.mp hw
    exact z_word (fun _ _ => rfl) hb
  · intro w hw
    rcases List.mem_cons.mp hw with rfl | hw
    · exact z_word (fun _ _ => rfl) (hts _ (z_in (i := 141) (by decide +kernel)))
    rcases List.mem_cons.mp hw with rfl | hw
    · exact z_word (fun _ _ => rfl) (hts _ (z_in (i := 198) (by decide +kernel)))
    rcases List.mem_cons.mp hw with rfl | hw
    · exact z_word (fun _ _ => rfl) (hts _ (z_in (i := 258) (by decide +kernel)))
    rcases List.mem_cons.mp hw with rfl | hw
    · exact z_word (fun _ _ => rfl) (hts _ (z_in (i := 88) (by decide +kernel)))
    · exact absurd hw List.not_mem_nil
  · intro j hj
    rcases (show j = 0 ∨ j = 1 by omega) with rfl | rfl
    · exact ⟨z0, by show zR 1; decide⟩
    · exact ⟨z1, trivial⟩
  · intro a e he
    dsimp only at he
    by_cases a1 : a = b
    · rw [if_pos a1] at he
      cases he
      refine ⟨by decide, by omega, fun j hj => ⟨zR_of _, rfl⟩, Or.inr ⟨by rw [a1]; exact hbl, cb, by rw [a1]; exact b1, b2, b3, by omega, by rw [b4], fun j hj => ?_⟩⟩
      rw [b5 j hj, Int32.ofInt_toInt]
    · rw [if_neg a1] at he
      by_cases a2 : a = pa
      · rw [if_pos a2] at he
        cases he
        have hz : ∀ j, j < 11 → zR (zprf j) := by decide
        exact ⟨by decide, by decide, fun j hj => ⟨hz j hj, rfl⟩, Or.inr ⟨by rw [a2]; exact lt p7, cp, by rw [a2]; exact p1, p2, p3, p4, p5, p6⟩⟩
      · rw [if_neg a2] at he; cases he
  · exact ⟨pa, zprf, rfl, lt p7, by
      show (if pa = b then _ else if pa = pa then _ else _) = _
      rw [if_neg d6, if_pos rfl], fun i _ => rfl⟩
