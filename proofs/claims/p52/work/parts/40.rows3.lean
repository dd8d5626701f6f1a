/-! ===== rows that make cells ===== -/
section ZTR3
variable {n0 : Nat} {g : Nat → zV} {M M' : zM} {pc : Nat} {L : List (Option zV)} {st : List zV} {n k : Nat} {h : zHp} {Q : Option zV → Nat → Nat → zHp → Prop}
theorem T_newarrayN {ty : ArrayType} {t m : Nat} {N : Int} (hd : decode M.1 pc = .ok (.newarray ty, 2)) (hc : zat0 ty = some t) (hN : N = (m : Int)) (hm : m ≤ 65536) (kk : ZT n0 g M (pc + 2) L (.inr (some n) :: st) (n + 1) (k + m) (zup h n (.inr (.inl (t, m, fun _ => 0)))) Q) : ZT n0 g M pc L (.inl N :: st) n k h Q := by
  subst hN
  exact T_newarray hd hc ⟨by omega, by omega⟩ kk
theorem T_anewarrayN {idx ci m : Nat} {N : Int} (hd : decode M.1 pc = .ok (.anewarray idx, 3)) (hc : zkk M.2.2.1 idx = some ci) (h3 : ci = 1 ∨ ci = 8 ∨ ci = 9) (hN : N = (m : Int)) (hm : m ≤ 65536) (kk : ZT n0 g M (pc + 3) L (.inr (some n) :: st) (n + 1) (k + m) (zup h n (.inr (.inr (ci, m, fun _ => none)))) Q) : ZT n0 g M pc L (.inl N :: st) n k h Q := by
  subst hN
  exact T_anewarray hd hc ⟨h3, by omega, by omega⟩ kk
theorem T_mna8 {idx : Nat} (hd : decode M.1 pc = .ok (.multianewarray idx 2, 4)) (hc : zkk M.2.2.1 idx = some 99)
    (kk : ∀ h' : zHp, h' n = some (.inr (.inr (99, 8, fun i => if i < 8 then some (n + 1 + i) else none))) → (∀ r, r < 8 → h' (n + 1 + r) = some (.inr (.inl (0, 8, fun _ => 0)))) → (∀ q : Nat, (q < n ∨ n + 9 ≤ q) → h' q = h q) → ZT n0 g M (pc + 4) L (.inr (some n) :: st) (n + 9) (k + 72) h' Q) : ZT n0 g M pc L (.inl 8 :: .inl 8 :: st) n k h Q := by
  refine T_mna hd hc ⟨by decide, by decide, by decide, by decide⟩ ?_
  refine kk _ ?_ (fun r hr => ?_) (fun q hq => ?_)
  · unfold zrows; rw [if_pos rfl]; rfl
  · unfold zrows
    rw [if_neg (by omega), if_pos ⟨by omega, by show n + 1 + r < n + 1 + 8; omega⟩]; rfl
  · unfold zrows
    rw [if_neg (by omega), if_neg (by show ¬ (n < q ∧ q < n + 1 + 8); omega)]
end ZTR3
