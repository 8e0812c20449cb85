theorem iv_cg3 {G : GG} {z : Nat} {ad : Nat → Nat} {M : Mem} {s : State} {H : Heap} {locs : List Loc} {f1 f3 g1 g3 : Nat → Nat} {f2 g2 : Nat → Bool} (hI : Iv G z ad M s H locs) (h62 : M 62 = some (aI G 36 (nF f1))) (e1 : ∀ j, j < 36 → f1 j = g1 j) (h64 : M 64 = some (aZ G 6 (bF f2))) (e2 : ∀ j, j < 6 → f2 j = g2 j) (h71 : M 71 = some (aI G 40 (nF f3))) (e3 : ∀ j, j < 40 → f3 j = g3 j) : ∃ M2 : Mem, Iv G z ad M2 s H locs ∧ M2 62 = some (aI G 36 (nF g1)) ∧ M2 64 = some (aZ G 6 (bF g2)) ∧ M2 71 = some (aI G 40 (nF g3)) ∧ ∀ j, j ≠ 62 → j ≠ 64 → j ≠ 71 → M2 j = M j := by
  have i1 := iv_cg (g := nF g1) hI h62 (fun j hj => congrArg nI (e1 j hj))
  have k64 := (va_up_ne M (some (aI G 36 (nF g1))) (show (64 : Nat) ≠ 62 by decide)).trans h64
  have i2 := iv_cg (g := bF g2) i1 k64 (fun j hj => congrArg bI (e2 j hj))
  have k71 := (va_up_ne (va_up M 62 (some (aI G 36 (nF g1)))) (some (aZ G 6 (bF g2))) (show (71 : Nat) ≠ 64 by decide)).trans ((va_up_ne M (some (aI G 36 (nF g1))) (show (71 : Nat) ≠ 62 by decide)).trans h71)
  have i3 := iv_cg (g := nF g3) i2 k71 (fun j hj => congrArg nI (e3 j hj))
  refine ⟨_, i3, ?_, ?_, va_up_self _ _ _, fun j h1 h2 h3 => ?_⟩
  · rw [va_up_ne _ _ (by decide), va_up_ne _ _ (by decide), va_up_self]
  · rw [va_up_ne _ _ (by decide), va_up_self]
  · rw [va_up_ne _ _ h3, va_up_ne _ _ h2, va_up_ne _ _ h1]

