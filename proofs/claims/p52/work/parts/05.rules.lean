/-! ===== what a run of the small machine comes to: rules, an instruction each ===== -/
abbrev zHp : Type := Nat → Option zC
theorem zrun_succ {n0 : Nat} {g : Nat → zV} {tf : zTf} {ts tk : zTn} {tc : zTc} {tm : zTm} : ∀ (f : Nat) (M : zM) (pc : Nat) (L : List (Option zV)) (st : List zV) (σ : zS) (r : Option zV × zS), zrun n0 g tf ts tk tc tm f M pc L st σ = some r → zrun n0 g tf ts tk tc tm (f + 1) M pc L st σ = some r
  | 0, M, pc, L, st, σ, r, h => by simp [zrun] at h
  | f + 1, M, pc, L, st, σ, r, h => by
    rw [zrun] at h ⊢
    cases hd : decode M.1 pc with
    | error e => rw [hd] at h; cases h
    | ok q =>
      obtain ⟨ins, len⟩ := q
      rw [hd] at h
      dsimp only at h ⊢
      cases hs : zstep n0 g tf ts tk tc tm ins len M pc L st σ with
      | none => rw [hs] at h; cases h
      | some q =>
        rw [hs] at h
        rcases q with ⟨pc', L', st', σ'⟩ | ⟨M', as, rest⟩ | v
        · exact zrun_succ f _ _ _ _ _ _ h
        · dsimp only at h ⊢
          by_cases hl : as.length ≤ M'.2.1
          · rw [if_pos hl] at h ⊢
            cases hc : zrun n0 g tf ts tk tc tm f M' 0 (zloc M' as) [] σ with
            | none => rw [hc] at h; cases h
            | some q =>
              rw [hc] at h
              rw [zrun_succ f _ _ _ _ _ _ hc]
              exact zrun_succ f _ _ _ _ _ _ h
          · rw [if_neg hl] at h; cases h
        · exact h
theorem zrun_le {n0 : Nat} {g : Nat → zV} {tf : zTf} {ts tk : zTn} {tc : zTc} {tm : zTm} {f f' : Nat} (hf : f ≤ f') {M : zM} {pc : Nat} {L : List (Option zV)} {st : List zV} {σ : zS} {r : Option zV × zS} (h : zrun n0 g tf ts tk tc tm f M pc L st σ = some r) : zrun n0 g tf ts tk tc tm f' M pc L st σ = some r := by
  obtain ⟨d, rfl⟩ := Nat.le.dest hf
  induction d with
  | zero => exact h
  | succ d ih => exact zrun_succ _ _ _ _ _ _ _ (ih (by omega))
/-- the run from here ends, and its end has Q -/
def ZT (n0 : Nat) (g : Nat → zV) (M : zM) (pc : Nat) (L : List (Option zV)) (st : List zV) (n k : Nat) (h : zHp) (Q : Option zV → Nat → Nat → zHp → Prop) : Prop :=
  ∃ (f : Nat) (v : Option zV) (σ' : zS), zrun n0 g zkf zks zkk zkc zkm f M pc L st (n, k, h) = some (v, σ') ∧ Q v σ'.1 σ'.2.1 σ'.2.2
theorem zup_self {h : zHp} {a : Nat} {e : zC} : zup h a e a = some e := by simp [zup]
theorem zup_ne {h : zHp} {a b : Nat} {e : zC} {x : Option zC} (hb : b ≠ a) (hx : h b = x) : zup h a e b = x := by simp [zup, hb, hx]
theorem zup_zup {h : zHp} {a : Nat} {e e' : zC} : zup (zup h a e) a e' = zup h a e' := by
  funext q
  by_cases hq : q = a <;> simp [zup, hq]
theorem zup_comm {h : zHp} {a b : Nat} {e e' : zC} (hab : a ≠ b) : zup (zup h a e) b e' = zup (zup h b e') a e := by
  funext q
  by_cases hq : q = a
  · subst hq; simp [zup, hab]
  · by_cases hq2 : q = b
    · subst hq2; simp [zup, hq]
    · simp [zup, hq, hq2]
theorem zup_same {h : zHp} {a : Nat} {e : zC} (ha : h a = some e) : zup h a e = h := by
  funext q
  by_cases hq : q = a
  · subst hq; simp [zup, ha]
  · simp [zup, hq]
theorem zfu_self {α : Type} {f : Nat → α} {k : Nat} {v : α} : zfu f k v k = v := by simp [zfu]
theorem zfu_ne {α : Type} {f : Nat → α} {k j : Nat} {v : α} (h : j ≠ k) : zfu f k v j = f j := by simp [zfu, h]
section ZTR
variable {n0 : Nat} {g : Nat → zV} {M M' : zM} {pc : Nat} {L : List (Option zV)} {st : List zV} {n k : Nat} {h : zHp} {Q : Option zV → Nat → Nat → zHp → Prop}
theorem ZT.step {ins : Instr} {len : Nat} {pc' : Nat} {L' : List (Option zV)} {st' : List zV} {n' k' : Nat} {h' : zHp} (hd : decode M.1 pc = .ok (ins, len)) (hs : zstep n0 g zkf zks zkk zkc zkm ins len M pc L st (n, k, h) = some (.inl (pc', L', st', (n', k', h')))) (kk : ZT n0 g M pc' L' st' n' k' h' Q) : ZT n0 g M pc L st n k h Q := by
  obtain ⟨f, v, σ', h1, h2⟩ := kk
  refine ⟨f + 1, v, σ', ?_, h2⟩
  rw [zrun, hd]
  dsimp only
  rw [hs]
  exact h1
theorem ZT.call {ins : Instr} {len : Nat} {as rest : List zV} (hd : decode M.1 pc = .ok (ins, len)) (hs : zstep n0 g zkf zks zkk zkc zkm ins len M pc L st (n, k, h) = some (.inr (.inl (M', as, rest)))) (hl : as.length ≤ M'.2.1)
    (kk : ZT n0 g M' 0 (zloc M' as) [] n k h (fun v n' k' h' => ZT n0 g M (pc + 3) L (v.toList ++ rest) n' k' h' Q)) : ZT n0 g M pc L st n k h Q := by
  obtain ⟨f1, v, σ1, h1, f2, w, σ2, h2, hq⟩ := kk
  refine ⟨max f1 f2 + 1, w, σ2, ?_, hq⟩
  rw [zrun, hd]
  dsimp only
  rw [hs]
  dsimp only
  rw [if_pos hl, zrun_le (Nat.le_max_left f1 f2) h1]
  exact zrun_le (Nat.le_max_right f1 f2) h2
theorem ZT.ret {ins : Instr} {len : Nat} {v : Option zV} (hd : decode M.1 pc = .ok (ins, len)) (hs : zstep n0 g zkf zks zkk zkc zkm ins len M pc L st (n, k, h) = some (.inr (.inr v))) (hq : Q v n k h) : ZT n0 g M pc L st n k h Q := by
  refine ⟨1, v, (n, k, h), ?_, hq⟩
  rw [zrun, hd]
  dsimp only
  rw [hs]
theorem ZT.mono {Q' : Option zV → Nat → Nat → zHp → Prop} (h1 : ZT n0 g M pc L st n k h Q) (h2 : ∀ v n k h, Q v n k h → Q' v n k h) : ZT n0 g M pc L st n k h Q' := by
  obtain ⟨f, v, σ, a, b⟩ := h1
  exact ⟨f, v, σ, a, h2 _ _ _ _ b⟩
theorem ztgt_of {off : Int} {t : Nat} (ht : (pc : Int) + off = (t : Int)) : ztgt pc off = some t := by
  unfold ztgt
  rw [ht, if_pos (Int.natCast_nonneg t), Int.toNat_natCast]
theorem T_null (hd : decode M.1 pc = .ok (.aconst_null, 1)) (kk : ZT n0 g M (pc + 1) L (.inr none :: st) n k h Q) : ZT n0 g M pc L st n k h Q := ZT.step hd (by simp [zstep, zA]) kk
theorem T_aload {i : Nat} {r : Option Nat} (hd : decode M.1 pc = .ok (.aload i, 2)) (hl : L[i]? = some (some (.inr r))) (kk : ZT n0 g M (pc + 2) L (.inr r :: st) n k h Q) : ZT n0 g M pc L st n k h Q := ZT.step hd (by simp [zstep, zA, hl]) kk
theorem T_aload_n {i : Fin 4} {r : Option Nat} (hd : decode M.1 pc = .ok (.aload_n i, 1)) (hl : L[i.val]? = some (some (.inr r))) (kk : ZT n0 g M (pc + 1) L (.inr r :: st) n k h Q) : ZT n0 g M pc L st n k h Q := ZT.step hd (by simp [zstep, zA, hl]) kk
theorem T_iload {i : Nat} {z : Int} (hd : decode M.1 pc = .ok (.iload i, 2)) (hl : L[i]? = some (some (.inl z))) (kk : ZT n0 g M (pc + 2) L (.inl z :: st) n k h Q) : ZT n0 g M pc L st n k h Q := ZT.step hd (by simp [zstep, zA, hl]) kk
theorem T_iload_n {i : Fin 4} {z : Int} (hd : decode M.1 pc = .ok (.iload_n i, 1)) (hl : L[i.val]? = some (some (.inl z))) (kk : ZT n0 g M (pc + 1) L (.inl z :: st) n k h Q) : ZT n0 g M pc L st n k h Q := ZT.step hd (by simp [zstep, zA, hl]) kk
theorem T_astore {i : Nat} {r : Option Nat} (hd : decode M.1 pc = .ok (.astore i, 2)) (hl : i < L.length) (kk : ZT n0 g M (pc + 2) (L.set i (some (.inr r))) st n k h Q) : ZT n0 g M pc L (.inr r :: st) n k h Q := ZT.step hd (by simp [zstep, zA, hl]) kk
theorem T_astore_n {i : Fin 4} {r : Option Nat} (hd : decode M.1 pc = .ok (.astore_n i, 1)) (hl : i.val < L.length) (kk : ZT n0 g M (pc + 1) (L.set i.val (some (.inr r))) st n k h Q) : ZT n0 g M pc L (.inr r :: st) n k h Q := ZT.step hd (by simp [zstep, zA, hl]) kk
theorem T_istore {i : Nat} {z : Int} (hd : decode M.1 pc = .ok (.istore i, 2)) (hl : i < L.length) (kk : ZT n0 g M (pc + 2) (L.set i (some (.inl z))) st n k h Q) : ZT n0 g M pc L (.inl z :: st) n k h Q := ZT.step hd (by simp [zstep, zA, hl]) kk
theorem T_istore_n {i : Fin 4} {z : Int} (hd : decode M.1 pc = .ok (.istore_n i, 1)) (hl : i.val < L.length) (kk : ZT n0 g M (pc + 1) (L.set i.val (some (.inl z))) st n k h Q) : ZT n0 g M pc L (.inl z :: st) n k h Q := ZT.step hd (by simp [zstep, zA, hl]) kk
theorem T_iconst {z : Int} (hd : decode M.1 pc = .ok (.iconst z, 1)) (hr : zR z) (kk : ZT n0 g M (pc + 1) L (.inl z :: st) n k h Q) : ZT n0 g M pc L st n k h Q := ZT.step hd (by simp only [zstep, zA, if_pos hr]) kk
theorem T_bipush {z : Int} (hd : decode M.1 pc = .ok (.bipush z, 2)) (hr : -128 ≤ z ∧ z ≤ 127) (kk : ZT n0 g M (pc + 2) L (.inl z :: st) n k h Q) : ZT n0 g M pc L st n k h Q := ZT.step hd (by simp only [zstep, zA, if_pos hr]) kk
theorem T_sipush {z : Int} (hd : decode M.1 pc = .ok (.sipush z, 3)) (hr : -32768 ≤ z ∧ z ≤ 32767) (kk : ZT n0 g M (pc + 3) L (.inl z :: st) n k h Q) : ZT n0 g M pc L st n k h Q := ZT.step hd (by simp only [zstep, zA, if_pos hr]) kk
theorem T_dup {v : zV} (hd : decode M.1 pc = .ok (.dup, 1)) (kk : ZT n0 g M (pc + 1) L (v :: v :: st) n k h Q) : ZT n0 g M pc L (v :: st) n k h Q := ZT.step hd (by simp [zstep, zA]) kk
theorem T_pop {v : zV} (hd : decode M.1 pc = .ok (.pop, 1)) (kk : ZT n0 g M (pc + 1) L st n k h Q) : ZT n0 g M pc L (v :: st) n k h Q := ZT.step hd (by simp [zstep, zA]) kk
theorem T_dup_x1 {v w : zV} (hd : decode M.1 pc = .ok (.dup_x1, 1)) (kk : ZT n0 g M (pc + 1) L (v :: w :: v :: st) n k h Q) : ZT n0 g M pc L (v :: w :: st) n k h Q := ZT.step hd (by simp [zstep, zA]) kk
theorem T_dup2 {v w : zV} (hd : decode M.1 pc = .ok (.dup2, 1)) (kk : ZT n0 g M (pc + 1) L (v :: w :: v :: w :: st) n k h Q) : ZT n0 g M pc L (v :: w :: st) n k h Q := ZT.step hd (by simp [zstep, zA]) kk
theorem T_iadd {x y : Int} (hd : decode M.1 pc = .ok (.iadd, 1)) (hr : zR (x + y)) (kk : ZT n0 g M (pc + 1) L (.inl (x + y) :: st) n k h Q) : ZT n0 g M pc L (.inl y :: .inl x :: st) n k h Q := ZT.step hd (by simp only [zstep, zA, if_pos hr]) kk
theorem T_isub {x y : Int} (hd : decode M.1 pc = .ok (.isub, 1)) (hr : zR (x - y)) (kk : ZT n0 g M (pc + 1) L (.inl (x - y) :: st) n k h Q) : ZT n0 g M pc L (.inl y :: .inl x :: st) n k h Q := ZT.step hd (by simp only [zstep, zA, if_pos hr]) kk
theorem T_imul {x y : Int} (hd : decode M.1 pc = .ok (.imul, 1)) (hr : zR (x * y)) (kk : ZT n0 g M (pc + 1) L (.inl (x * y) :: st) n k h Q) : ZT n0 g M pc L (.inl y :: .inl x :: st) n k h Q := ZT.step hd (by simp only [zstep, zA, if_pos hr]) kk
theorem T_idiv {x y : Int} (hd : decode M.1 pc = .ok (.idiv, 1)) (hr : y ≠ 0 ∧ zR (x.tdiv y)) (kk : ZT n0 g M (pc + 1) L (.inl (x.tdiv y) :: st) n k h Q) : ZT n0 g M pc L (.inl y :: .inl x :: st) n k h Q := ZT.step hd (by simp only [zstep, zA, if_pos hr]) kk
theorem T_irem {x y : Int} (hd : decode M.1 pc = .ok (.irem, 1)) (hr : y ≠ 0 ∧ zR (x.tdiv y)) (kk : ZT n0 g M (pc + 1) L (.inl (x.tmod y) :: st) n k h Q) : ZT n0 g M pc L (.inl y :: .inl x :: st) n k h Q := ZT.step hd (by simp only [zstep, zA, if_pos hr]) kk
theorem T_ineg {x : Int} (hd : decode M.1 pc = .ok (.ineg, 1)) (hr : zR (-x)) (kk : ZT n0 g M (pc + 1) L (.inl (-x) :: st) n k h Q) : ZT n0 g M pc L (.inl x :: st) n k h Q := ZT.step hd (by simp only [zstep, zA, if_pos hr]) kk
theorem T_iand {x y : Int} (hd : decode M.1 pc = .ok (.iand, 1)) (kk : ZT n0 g M (pc + 1) L (.inl (zbit (fun a b => a &&& b) x y) :: st) n k h Q) : ZT n0 g M pc L (.inl y :: .inl x :: st) n k h Q := ZT.step hd (by simp [zstep, zA]) kk
theorem T_ior {x y : Int} (hd : decode M.1 pc = .ok (.ior, 1)) (kk : ZT n0 g M (pc + 1) L (.inl (zbit (fun a b => a ||| b) x y) :: st) n k h Q) : ZT n0 g M pc L (.inl y :: .inl x :: st) n k h Q := ZT.step hd (by simp [zstep, zA]) kk
theorem T_ixor {x y : Int} (hd : decode M.1 pc = .ok (.ixor, 1)) (kk : ZT n0 g M (pc + 1) L (.inl (zbit (fun a b => a ^^^ b) x y) :: st) n k h Q) : ZT n0 g M pc L (.inl y :: .inl x :: st) n k h Q := ZT.step hd (by simp [zstep, zA]) kk
theorem T_ishl {x y : Int} (hd : decode M.1 pc = .ok (.ishl, 1)) (kk : ZT n0 g M (pc + 1) L (.inl (zbit (fun a b => a <<< (b &&& 31)) x y) :: st) n k h Q) : ZT n0 g M pc L (.inl y :: .inl x :: st) n k h Q := ZT.step hd (by simp [zstep, zA]) kk
theorem T_ishr {x y : Int} (hd : decode M.1 pc = .ok (.ishr, 1)) (kk : ZT n0 g M (pc + 1) L (.inl (zbit (fun a b => a >>> (b &&& 31)) x y) :: st) n k h Q) : ZT n0 g M pc L (.inl y :: .inl x :: st) n k h Q := ZT.step hd (by simp [zstep, zA]) kk
theorem T_i2b {x : Int} (hd : decode M.1 pc = .ok (.i2b, 1)) (hr : -128 ≤ x ∧ x ≤ 127) (kk : ZT n0 g M (pc + 1) L (.inl x :: st) n k h Q) : ZT n0 g M pc L (.inl x :: st) n k h Q := ZT.step hd (by simp only [zstep, zA, if_pos hr]) kk
theorem T_i2c {x : Int} (hd : decode M.1 pc = .ok (.i2c, 1)) (hr : 0 ≤ x ∧ x ≤ 65535) (kk : ZT n0 g M (pc + 1) L (.inl x :: st) n k h Q) : ZT n0 g M pc L (.inl x :: st) n k h Q := ZT.step hd (by simp only [zstep, zA, if_pos hr]) kk
theorem T_iinc {i : Nat} {z c : Int} (hd : decode M.1 pc = .ok (.iinc i c, 3)) (hl : L[i]? = some (some (.inl z))) (hr : zR (z + c)) (kk : ZT n0 g M (pc + 3) (L.set i (some (.inl (z + c)))) st n k h Q) : ZT n0 g M pc L st n k h Q := ZT.step hd (by simp only [zstep, zA, hl, if_pos hr]) kk
theorem T_goto {off : Int} {t : Nat} (hd : decode M.1 pc = .ok (.goto off, 3)) (ht : (pc : Int) + off = (t : Int)) (kk : ZT n0 g M t L st n k h Q) : ZT n0 g M pc L st n k h Q := ZT.step hd (by simp [zstep, zA, zB, ztgt_of ht]) kk
theorem T_if {c : ClassFile.Cond} {off : Int} {t : Nat} {x : Int} {P : Prop} [Decidable P] (hd : decode M.1 pc = .ok (.ifCond c off, 3)) (ht : (pc : Int) + off = (t : Int)) (hc : zcond c x 0 = decide P) (kt : P → ZT n0 g M t L st n k h Q) (kf : ¬ P → ZT n0 g M (pc + 3) L st n k h Q) : ZT n0 g M pc L (.inl x :: st) n k h Q := by
  by_cases hp : P
  · exact ZT.step hd (by simp [zstep, zA, zB, ztgt_of ht, hc, hp]) (kt hp)
  · exact ZT.step hd (by simp [zstep, zA, zB, ztgt_of ht, hc, hp]) (kf hp)
theorem T_icmp {c : ClassFile.Cond} {off : Int} {t : Nat} {x y : Int} {P : Prop} [Decidable P] (hd : decode M.1 pc = .ok (.if_icmp c off, 3)) (ht : (pc : Int) + off = (t : Int)) (hc : zcond c x y = decide P) (kt : P → ZT n0 g M t L st n k h Q) (kf : ¬ P → ZT n0 g M (pc + 3) L st n k h Q) : ZT n0 g M pc L (.inl y :: .inl x :: st) n k h Q := by
  by_cases hp : P
  · exact ZT.step hd (by simp [zstep, zA, zB, ztgt_of ht, hc, hp]) (kt hp)
  · exact ZT.step hd (by simp [zstep, zA, zB, ztgt_of ht, hc, hp]) (kf hp)
theorem T_if_eq {off : Int} {t : Nat} {x : Int} (hd : decode M.1 pc = .ok (.ifCond .eq off, 3)) (ht : (pc : Int) + off = (t : Int)) (kt : x = 0 → ZT n0 g M t L st n k h Q) (kf : ¬ x = 0 → ZT n0 g M (pc + 3) L st n k h Q) : ZT n0 g M pc L (.inl x :: st) n k h Q := T_if hd ht rfl kt kf
theorem T_if_ne {off : Int} {t : Nat} {x : Int} (hd : decode M.1 pc = .ok (.ifCond .ne off, 3)) (ht : (pc : Int) + off = (t : Int)) (kt : x ≠ 0 → ZT n0 g M t L st n k h Q) (kf : ¬ x ≠ 0 → ZT n0 g M (pc + 3) L st n k h Q) : ZT n0 g M pc L (.inl x :: st) n k h Q := T_if hd ht rfl kt kf
theorem T_if_lt {off : Int} {t : Nat} {x : Int} (hd : decode M.1 pc = .ok (.ifCond .lt off, 3)) (ht : (pc : Int) + off = (t : Int)) (kt : x < 0 → ZT n0 g M t L st n k h Q) (kf : ¬ x < 0 → ZT n0 g M (pc + 3) L st n k h Q) : ZT n0 g M pc L (.inl x :: st) n k h Q := T_if hd ht rfl kt kf
theorem T_if_ge {off : Int} {t : Nat} {x : Int} (hd : decode M.1 pc = .ok (.ifCond .ge off, 3)) (ht : (pc : Int) + off = (t : Int)) (kt : 0 ≤ x → ZT n0 g M t L st n k h Q) (kf : ¬ 0 ≤ x → ZT n0 g M (pc + 3) L st n k h Q) : ZT n0 g M pc L (.inl x :: st) n k h Q := T_if hd ht rfl kt kf
theorem T_if_gt {off : Int} {t : Nat} {x : Int} (hd : decode M.1 pc = .ok (.ifCond .gt off, 3)) (ht : (pc : Int) + off = (t : Int)) (kt : 0 < x → ZT n0 g M t L st n k h Q) (kf : ¬ 0 < x → ZT n0 g M (pc + 3) L st n k h Q) : ZT n0 g M pc L (.inl x :: st) n k h Q := T_if hd ht rfl kt kf
theorem T_if_le {off : Int} {t : Nat} {x : Int} (hd : decode M.1 pc = .ok (.ifCond .le off, 3)) (ht : (pc : Int) + off = (t : Int)) (kt : x ≤ 0 → ZT n0 g M t L st n k h Q) (kf : ¬ x ≤ 0 → ZT n0 g M (pc + 3) L st n k h Q) : ZT n0 g M pc L (.inl x :: st) n k h Q := T_if hd ht rfl kt kf
theorem T_icmp_eq {off : Int} {t : Nat} {x y : Int} (hd : decode M.1 pc = .ok (.if_icmp .eq off, 3)) (ht : (pc : Int) + off = (t : Int)) (kt : x = y → ZT n0 g M t L st n k h Q) (kf : ¬ x = y → ZT n0 g M (pc + 3) L st n k h Q) : ZT n0 g M pc L (.inl y :: .inl x :: st) n k h Q := T_icmp hd ht rfl kt kf
theorem T_icmp_ne {off : Int} {t : Nat} {x y : Int} (hd : decode M.1 pc = .ok (.if_icmp .ne off, 3)) (ht : (pc : Int) + off = (t : Int)) (kt : x ≠ y → ZT n0 g M t L st n k h Q) (kf : ¬ x ≠ y → ZT n0 g M (pc + 3) L st n k h Q) : ZT n0 g M pc L (.inl y :: .inl x :: st) n k h Q := T_icmp hd ht rfl kt kf
theorem T_icmp_lt {off : Int} {t : Nat} {x y : Int} (hd : decode M.1 pc = .ok (.if_icmp .lt off, 3)) (ht : (pc : Int) + off = (t : Int)) (kt : x < y → ZT n0 g M t L st n k h Q) (kf : ¬ x < y → ZT n0 g M (pc + 3) L st n k h Q) : ZT n0 g M pc L (.inl y :: .inl x :: st) n k h Q := T_icmp hd ht rfl kt kf
theorem T_icmp_ge {off : Int} {t : Nat} {x y : Int} (hd : decode M.1 pc = .ok (.if_icmp .ge off, 3)) (ht : (pc : Int) + off = (t : Int)) (kt : y ≤ x → ZT n0 g M t L st n k h Q) (kf : ¬ y ≤ x → ZT n0 g M (pc + 3) L st n k h Q) : ZT n0 g M pc L (.inl y :: .inl x :: st) n k h Q := T_icmp hd ht rfl kt kf
theorem T_icmp_gt {off : Int} {t : Nat} {x y : Int} (hd : decode M.1 pc = .ok (.if_icmp .gt off, 3)) (ht : (pc : Int) + off = (t : Int)) (kt : y < x → ZT n0 g M t L st n k h Q) (kf : ¬ y < x → ZT n0 g M (pc + 3) L st n k h Q) : ZT n0 g M pc L (.inl y :: .inl x :: st) n k h Q := T_icmp hd ht rfl kt kf
theorem T_icmp_le {off : Int} {t : Nat} {x y : Int} (hd : decode M.1 pc = .ok (.if_icmp .le off, 3)) (ht : (pc : Int) + off = (t : Int)) (kt : x ≤ y → ZT n0 g M t L st n k h Q) (kf : ¬ x ≤ y → ZT n0 g M (pc + 3) L st n k h Q) : ZT n0 g M pc L (.inl y :: .inl x :: st) n k h Q := T_icmp hd ht rfl kt kf
theorem T_ifnull {off : Int} {t : Nat} {r : Option Nat} (hd : decode M.1 pc = .ok (.ifnull off, 3)) (ht : (pc : Int) + off = (t : Int)) (kt : r = none → ZT n0 g M t L st n k h Q) (kf : ∀ a, r = some a → ZT n0 g M (pc + 3) L st n k h Q) : ZT n0 g M pc L (.inr r :: st) n k h Q := by
  cases r with
  | none => exact ZT.step hd (by simp [zstep, zA, zB, ztgt_of ht]) (kt rfl)
  | some a => exact ZT.step hd (by simp [zstep, zA, zB, ztgt_of ht]) (kf a rfl)
theorem T_ifnonnull {off : Int} {t : Nat} {r : Option Nat} (hd : decode M.1 pc = .ok (.ifnonnull off, 3)) (ht : (pc : Int) + off = (t : Int)) (kt : ∀ a, r = some a → ZT n0 g M t L st n k h Q) (kf : r = none → ZT n0 g M (pc + 3) L st n k h Q) : ZT n0 g M pc L (.inr r :: st) n k h Q := by
  cases r with
  | none => exact ZT.step hd (by simp [zstep, zA, zB, ztgt_of ht]) (kf rfl)
  | some a => exact ZT.step hd (by simp [zstep, zA, zB, ztgt_of ht]) (kt a rfl)
theorem T_tableOut {d lo hi : Int} {offs : Array Int} {len t : Nat} {x : Int} (hd : decode M.1 pc = .ok (.tableswitch d lo hi offs, len)) (hx : x < lo ∨ hi < x) (ht : (pc : Int) + d = (t : Int)) (kk : ZT n0 g M t L st n k h Q) : ZT n0 g M pc L (.inl x :: st) n k h Q := ZT.step hd (by simp only [zstep, zA, zB, if_pos hx, ztgt_of ht]; rfl) kk
theorem T_tableIn {d lo hi off : Int} {offs : Array Int} {len t : Nat} {x : Int} (hd : decode M.1 pc = .ok (.tableswitch d lo hi offs, len)) (hx : ¬ (x < lo ∨ hi < x)) (ho : offs[(x - lo).toNat]? = some off) (ht : (pc : Int) + off = (t : Int)) (kk : ZT n0 g M t L st n k h Q) : ZT n0 g M pc L (.inl x :: st) n k h Q := ZT.step hd (by simp only [zstep, zA, zB, if_neg hx, ho, ztgt_of ht]; rfl) kk
theorem T_ldc {idx : Nat} {z : Int} (hd : decode M.1 pc = .ok (.ldc idx, 2)) (hc : zkc M.2.2.1 idx = some z) (hr : zR z) (kk : ZT n0 g M (pc + 2) L (.inl z :: st) n k h Q) : ZT n0 g M pc L st n k h Q := ZT.step hd (by simp only [zstep, zA, zB, zD, hc, if_pos hr]) kk
theorem T_getstatic {idx i : Nat} (hd : decode M.1 pc = .ok (.getstatic idx, 3)) (hc : zks M.2.2.1 idx = some i) (kk : ZT n0 g M (pc + 3) L (g i :: st) n k h Q) : ZT n0 g M pc L st n k h Q := ZT.step hd (by simp only [zstep, zA, zB, zD, hc]) kk
theorem T_getfield {idx ci j a : Nat} {fs : List zV} {v : zV} (hd : decode M.1 pc = .ok (.getfield idx, 3)) (hc : zkf M.2.2.1 idx = some (ci, j)) (ha : h a = some (.inl (ci, fs))) (hv : fs[j]? = some v) (kk : ZT n0 g M (pc + 3) L (v :: st) n k h Q) : ZT n0 g M pc L (.inr (some a) :: st) n k h Q := ZT.step hd (by simp [zstep, zA, zB, zD, hc, ha, hv]) kk
theorem T_putfield {idx ci j a : Nat} {fs fs' : List zV} {v : zV} (hd : decode M.1 pc = .ok (.putfield idx, 3)) (hc : zkf M.2.2.1 idx = some (ci, j)) (ha : h a = some (.inl (ci, fs))) (hj : j < fs.length) (hn : n0 ≤ a) (hfit : zfit (zfty ci j) v = true) (hfin : zfin ci j = true → M.2.2.2.1 = true ∧ ((zcl ci).2.1 j).1 = zcn M.2.2.1) (hs : fs.set j v = fs') (kk : ZT n0 g M (pc + 3) L st n k (zup h a (.inl (ci, fs'))) Q) : ZT n0 g M pc L (v :: .inr (some a) :: st) n k h Q := by
  subst hs
  refine ZT.step hd ?_ kk
  have e : zD n0 g zkf zks zkk zkc (.putfield idx) 3 M (v :: .inr (some a) :: st) (n, k, h) = some (st, (n, k, zup h a (.inl (ci, fs.set j v)))) := by
    simp only [zD, hc, ha]
    rw [if_pos ⟨trivial, hj, hn, hfit, hfin⟩]
  simp only [zstep, zA, zB, e]
theorem T_arraylength {a t N : Nat} {f : Nat → Int} (hd : decode M.1 pc = .ok (.arraylength, 1)) (ha : h a = some (.inr (.inl (t, N, f)))) (kk : ZT n0 g M (pc + 1) L (.inl (N : Int) :: st) n k h Q) : ZT n0 g M pc L (.inr (some a) :: st) n k h Q := ZT.step hd (by simp [zstep, zA, zB, zD, ha]) kk
theorem T_arraylengthR {a t N : Nat} {f : Nat → Option Nat} (hd : decode M.1 pc = .ok (.arraylength, 1)) (ha : h a = some (.inr (.inr (t, N, f)))) (kk : ZT n0 g M (pc + 1) L (.inl (N : Int) :: st) n k h Q) : ZT n0 g M pc L (.inr (some a) :: st) n k h Q := ZT.step hd (by simp [zstep, zA, zB, zD, ha]) kk
theorem T_iaload {a N : Nat} {f : Nat → Int} {i : Int} (hd : decode M.1 pc = .ok (.iaload, 1)) (ha : h a = some (.inr (.inl (0, N, f)))) (hi : 0 ≤ i ∧ i < (N : Int)) (kk : ZT n0 g M (pc + 1) L (.inl (f i.toNat) :: st) n k h Q) : ZT n0 g M pc L (.inl i :: .inr (some a) :: st) n k h Q := ZT.step hd (by simp [zstep, zA, zB, zD, ha, hi]) kk
theorem T_baload {a t N : Nat} {f : Nat → Int} {i : Int} (hd : decode M.1 pc = .ok (.baload, 1)) (ha : h a = some (.inr (.inl (t, N, f)))) (ht : t = 1 ∨ t = 2) (hi : 0 ≤ i ∧ i < (N : Int)) (kk : ZT n0 g M (pc + 1) L (.inl (f i.toNat) :: st) n k h Q) : ZT n0 g M pc L (.inl i :: .inr (some a) :: st) n k h Q := ZT.step hd (by simp [zstep, zA, zB, zD, ha, hi, ht]) kk
theorem T_aaload {a t N : Nat} {f : Nat → Option Nat} {i : Int} (hd : decode M.1 pc = .ok (.aaload, 1)) (ha : h a = some (.inr (.inr (t, N, f)))) (hi : 0 ≤ i ∧ i < (N : Int)) (kk : ZT n0 g M (pc + 1) L (.inr (f i.toNat) :: st) n k h Q) : ZT n0 g M pc L (.inl i :: .inr (some a) :: st) n k h Q := ZT.step hd (by simp [zstep, zA, zB, zD, ha, hi]) kk
theorem T_iastore {a N : Nat} {f : Nat → Int} {i x : Int} (hd : decode M.1 pc = .ok (.iastore, 1)) (ha : h a = some (.inr (.inl (0, N, f)))) (hi : 0 ≤ i ∧ i < (N : Int)) (hn : n0 ≤ a) (kk : ZT n0 g M (pc + 1) L st n k (zup h a (.inr (.inl (0, N, zfu f i.toNat x)))) Q) : ZT n0 g M pc L (.inl x :: .inl i :: .inr (some a) :: st) n k h Q := ZT.step hd (by simp [zstep, zA, zB, zD, ha, hi, hn]) kk
theorem T_bastore {a t N : Nat} {f : Nat → Int} {i x : Int} (hd : decode M.1 pc = .ok (.bastore, 1)) (ha : h a = some (.inr (.inl (t, N, f)))) (ht : t = 1 ∨ t = 2) (hi : 0 ≤ i ∧ i < (N : Int)) (hn : n0 ≤ a) (hf : zfit (zty t) (.inl x) = true) (kk : ZT n0 g M (pc + 1) L st n k (zup h a (.inr (.inl (t, N, zfu f i.toNat x)))) Q) : ZT n0 g M pc L (.inl x :: .inl i :: .inr (some a) :: st) n k h Q := ZT.step hd (by simp [zstep, zA, zB, zD, ha, hi, hn, ht, hf]) kk
theorem T_aastore {a b t N : Nat} {fs : List zV} {f : Nat → Option Nat} {i : Int} (hd : decode M.1 pc = .ok (.aastore, 1)) (ha : h a = some (.inr (.inr (t, N, f)))) (hb : h b = some (.inl (t, fs))) (ht : t < 11) (hi : 0 ≤ i ∧ i < (N : Int)) (hn : n0 ≤ a) (kk : ZT n0 g M (pc + 1) L st n k (zup h a (.inr (.inr (t, N, zfu f i.toNat (some b))))) Q) : ZT n0 g M pc L (.inr (some b) :: .inl i :: .inr (some a) :: st) n k h Q := ZT.step hd (by simp [zstep, zA, zB, zD, ha, hb, hi, hn, ht]) kk
theorem T_new {idx ci sz : Nat} {fs : List zV} (hd : decode M.1 pc = .ok (.new idx, 3)) (hc : zkk M.2.2.1 idx = some ci) (h12 : ci < 11) (hz : (zcl ci).2.2 = sz) (hf : (List.range sz).map (fun k => zdf (zfty ci k)) = fs) (kk : ZT n0 g M (pc + 3) L (.inr (some n) :: st) (n + 1) (k + sz) (zup h n (.inl (ci, fs))) Q) : ZT n0 g M pc L st n k h Q := by
  subst hz; subst hf
  exact ZT.step hd (by simp only [zstep, zA, zB, zD, hc, if_pos h12]) kk
theorem T_newarray {ty : ArrayType} {t : Nat} {N : Int} (hd : decode M.1 pc = .ok (.newarray ty, 2)) (hc : zat0 ty = some t) (hN : 0 ≤ N ∧ N ≤ 65536) (kk : ZT n0 g M (pc + 2) L (.inr (some n) :: st) (n + 1) (k + N.toNat) (zup h n (.inr (.inl (t, N.toNat, fun _ => 0)))) Q) : ZT n0 g M pc L (.inl N :: st) n k h Q := ZT.step hd (by simp only [zstep, zA, zB, zD, hc, if_pos hN]) kk
theorem T_anewarray {idx ci : Nat} {N : Int} (hd : decode M.1 pc = .ok (.anewarray idx, 3)) (hc : zkk M.2.2.1 idx = some ci) (hN : (ci = 1 ∨ ci = 8 ∨ ci = 9) ∧ 0 ≤ N ∧ N ≤ 65536) (kk : ZT n0 g M (pc + 3) L (.inr (some n) :: st) (n + 1) (k + N.toNat) (zup h n (.inr (.inr (ci, N.toNat, fun _ => none)))) Q) : ZT n0 g M pc L (.inl N :: st) n k h Q := ZT.step hd (by simp only [zstep, zA, zB, zD, hc, if_pos hN]) kk
theorem T_mna {idx : Nat} {N K : Int} (hd : decode M.1 pc = .ok (.multianewarray idx 2, 4)) (hc : zkk M.2.2.1 idx = some 99) (hN : 0 ≤ N ∧ N ≤ 65536 ∧ 0 ≤ K ∧ K ≤ 65536) (kk : ZT n0 g M (pc + 4) L (.inr (some n) :: st) (n + 1 + N.toNat) (k + N.toNat + N.toNat * K.toNat) (zrows h n N.toNat K.toNat) Q) : ZT n0 g M pc L (.inl K :: .inl N :: st) n k h Q := ZT.step hd (by simp only [zstep, zA, zB, zD, hc, if_pos hN]) kk
theorem T_iret {z : Int} (hd : decode M.1 pc = .ok (.ireturn, 1)) (hr : zretok M.2.2.2.2.2.2.2 (some (.inl z)) = true) (hq : Q (some (.inl z)) n k h) : ZT n0 g M pc L [.inl z] n k h Q := ZT.ret hd (by simp only [zstep, zA, zB, zD, zE, if_pos hr]) hq
theorem T_aret {r : Option Nat} (hd : decode M.1 pc = .ok (.areturn, 1)) (hr : zretok M.2.2.2.2.2.2.2 (some (.inr r)) = true) (hq : Q (some (.inr r)) n k h) : ZT n0 g M pc L [.inr r] n k h Q := ZT.ret hd (by simp only [zstep, zA, zB, zD, zE, if_pos hr]) hq
theorem T_vret (hd : decode M.1 pc = .ok (.return_, 1)) (hr : M.2.2.2.2.2.2.2 = none) (hq : Q none n k h) : ZT n0 g M pc L [] n k h Q := ZT.ret hd (by simp only [zstep, zA, zB, zD, zE, if_pos hr]) hq
theorem T_callS {idx na c9 : Nat} {as : List zV} (hd : decode M.1 pc = .ok (.invokestatic idx, 3)) (hm : zkm M.2.2.1 idx = some (0, na, c9, M')) (hn : na ≤ st.length ∧ st.length ≤ na + 8 ∧ zroom M M' = true) (ha : (st.take na).reverse = as) (hl : as.length ≤ M'.2.1)
    (kk : ZT n0 g M' 0 (zloc M' as) [] n k h (fun v n' k' h' => ZT n0 g M (pc + 3) L (v.toList ++ st.drop na) n' k' h' Q)) : ZT n0 g M pc L st n k h Q := by
  subst ha
  exact ZT.call hd (by simp only [zstep, zA, zB, zD, zE, hm, if_pos hn]) hl kk
theorem T_callV {idx kd na ci b : Nat} {as rest : List zV} {fs : List zV} (hd : decode M.1 pc = .ok (.invokevirtual idx, 3)) (hm : zkm M.2.2.1 idx = some (kd, na, ci, M')) (hk : kd = 1 ∨ kd = 4) (hb : st.drop na = .inr (some b) :: rest) (ho : h b = some (.inl (ci, fs))) (hn : rest.length ≤ 8 ∧ zroom M M' = true) (ha : .inr (some b) :: (st.take na).reverse = as) (hl : as.length ≤ M'.2.1)
    (kk : ZT n0 g M' 0 (zloc M' as) [] n k h (fun v n' k' h' => ZT n0 g M (pc + 3) L (v.toList ++ rest) n' k' h' Q)) : ZT n0 g M pc L st n k h Q := by
  subst ha
  refine ZT.call hd ?_ hl kk
  simp only [zstep, zA, zB, zD, zE, hm, hb, ho]
  rw [if_pos ⟨hk, trivial, hn⟩]
theorem T_callI {idx kd na ci b : Nat} {as rest : List zV} (hd : decode M.1 pc = .ok (.invokespecial idx, 3)) (hm : zkm M.2.2.1 idx = some (kd, na, ci, M')) (hk : kd = 2 ∨ kd = 3) (hb : st.drop na = .inr (some b) :: rest) (hn : rest.length ≤ 8 ∧ zroom M M' = true) (ha : .inr (some b) :: (st.take na).reverse = as) (hl : as.length ≤ M'.2.1)
    (kk : ZT n0 g M' 0 (zloc M' as) [] n k h (fun v n' k' h' => ZT n0 g M (pc + 3) L (v.toList ++ rest) n' k' h' Q)) : ZT n0 g M pc L st n k h Q := by
  subst ha
  refine ZT.call hd ?_ hl kk
  have h6 : ¬ kd = 6 := by omega
  simp only [zstep, zA, zB, zD, zE, hm, hb]
  rw [if_neg h6, if_pos hk, if_pos hn]
theorem T_callU {idx na ci b : Nat} {as rest : List zV} {fs : List zV} (hd : decode M.1 pc = .ok (.invokespecial idx, 3)) (hm : zkm M.2.2.1 idx = some (5, na, ci, M')) (hb : st.drop na = .inr (some b) :: rest) (ho : h b = some (.inl (ci, fs))) (hn : rest.length ≤ 8 ∧ zroom M M' = true) (ha : .inr (some b) :: (st.take na).reverse = as) (hl : as.length ≤ M'.2.1)
    (kk : ZT n0 g M' 0 (zloc M' as) [] n k h (fun v n' k' h' => ZT n0 g M (pc + 3) L (v.toList ++ rest) n' k' h' Q)) : ZT n0 g M pc L st n k h Q := by
  subst ha
  refine ZT.call hd ?_ hl kk
  simp only [zstep, zA, zB, zD, zE, hm, hb, ho]
  rw [if_neg (by omega), if_neg (by omega), if_pos ⟨trivial, trivial, hn⟩]
theorem T_objinit {idx ci b : Nat} {rest : List zV} (hd : decode M.1 pc = .ok (.invokespecial idx, 3)) (hm : zkm M.2.2.1 idx = some (6, 0, ci, M')) (hn : rest.length ≤ 8 ∧ 1 ≤ M.2.2.2.2.1 ∧ 20 ≤ M.2.2.2.2.2.1) (kk : ZT n0 g M (pc + 3) L rest n k h Q) : ZT n0 g M pc L (.inr (some b) :: rest) n k h Q := by
  refine ZT.step hd ?_ kk
  simp only [zstep, zA, zB, zD, zE, hm, List.drop_zero]
  rw [if_pos trivial, if_pos ⟨trivial, hn⟩]
theorem T_copy {idx c1 c2 a b t N0 N1 : Nat} {f e : Nat → Int} {sp dp q : Int} {rest : List zV} (hd : decode M.1 pc = .ok (.invokestatic idx, 3)) (hm : zkm M.2.2.1 idx = some (7, c1, c2, M')) (hb : h b = some (.inr (.inl (t, N0, f)))) (ha : h a = some (.inr (.inl (t, N1, e)))) (hc : 0 ≤ sp ∧ 0 ≤ dp ∧ 0 ≤ q ∧ sp + q ≤ (N0 : Int) ∧ dp + q ≤ (N1 : Int)) (h0 : n0 ≤ a ∧ n0 ≤ b) (hn : rest.length ≤ 8 ∧ 1 ≤ M.2.2.2.2.1 ∧ 40 ≤ M.2.2.2.2.2.1) (kk : ZT n0 g M (pc + 3) L rest n k (zup h a (.inr (.inl (t, N1, zcp f e sp.toNat dp.toNat q.toNat)))) Q) : ZT n0 g M pc L (.inl q :: .inl dp :: .inr (some a) :: .inl sp :: .inr (some b) :: rest) n k h Q := by
  refine ZT.step hd ?_ kk
  simp only [zstep, zA, zB, zD, zE, hm, ha, hb]
  rw [if_pos ⟨trivial, hc.1, hc.2.1, hc.2.2.1, hc.2.2.2.1, hc.2.2.2.2, h0.1, h0.2, hn⟩]
end ZTR
