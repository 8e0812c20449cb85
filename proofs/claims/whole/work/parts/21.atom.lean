def preR (L : List (Nat × Nat)) (r : Nat ⊕ (Nat × List (Nat × Nat) × Nat)) : Nat ⊕ (Nat × List (Nat × Nat) × Nat) := match r with
  | .inl f => .inl f
  | .inr (q, L', u) => .inr (q, L ++ L', u)
theorem preR_pre (L L' : List (Nat × Nat)) (r : Nat ⊕ (Nat × List (Nat × Nat) × Nat)) : preR L (preR L' r) = preR (L ++ L') r := by
  rcases r with f | ⟨q, L2, u⟩
  · rfl
  · simp [preR]
theorem preR_nil (r : Nat ⊕ (Nat × List (Nat × Nat) × Nat)) : preR [] r = r := by
  rcases r with f | ⟨q, L2, u⟩ <;> rfl
/-- the parts of an atom, at most m; g: where the last token began -/
def rdParts (tb : Nat → Nat) (len : Nat) (nt : Bool) : Nat → Nat → Nat → Nat → Nat ⊕ (Nat × List (Nat × Nat) × Nat)
  | 0, g, _, _ => .inl g
  | m + 1, _, uv, p => match rdPart tb len nt uv p with
    | .inl f => .inl f
    | .inr (p', x, t, uv') => if tkn tb len p' = nI 44 then preR [(x, t)] (rdParts tb len nt m (sk tb len p') uv' (ps tb len p')) else if tkn tb len p' = nI 41 then .inr (ps tb len p', [(x, t)], uv') else .inl (sk tb len p')
def rdAtom1 (tb : Nat → Nat) (len : Nat) (nt : Bool) (uv p : Nat) : Nat ⊕ (Nat × (Nat × Bool × List (Nat × Nat)) × Nat) :=
  if ¬ tkn tb len p = nI 107 then .inl (sk tb len p)
  else if nmb tb len (ps tb len p) 6 = false then .inl (sk tb len (ps tb len p))
  else if ¬ tkn tb len (ps tb len (ps tb len p)) = nI 40 then .inl (sk tb len (ps tb len (ps tb len p)))
  else match rdParts tb len nt 4 (sk tb len (ps tb len (ps tb len p))) uv (ps tb len (ps tb len (ps tb len p))) with
    | .inl f => .inl f
    | .inr (q, L, u) => .inr (q, (nmq tb len (ps tb len p), nt, L), u)
/-- an atom: where it is wrong, or where it ends, its kind, whether not, its parts, the variables then -/
def rdAtom (tb : Nat → Nat) (len : Nat) (uv p : Nat) : Nat ⊕ (Nat × (Nat × Bool × List (Nat × Nat)) × Nat) := if tkn tb len p = -3 then rdAtom1 tb len true uv (ps tb len p) else rdAtom1 tb len false uv p
/-- the parts of atom i as the arrays hold them -/
def ptR (pn av ro te : Nat → Nat) (i : Nat) (L : List (Nat × Nat)) : Prop := pn i = L.length ∧ av i = L.foldl (fun u x => u ||| vb x.2) 0 ∧ (∀ j, j < L.length → ro (i * 4 + j) = (L.getD j (0, 0)).1 ∧ te (i * 4 + j) = (L.getD j (0, 0)).2) ∧ ∀ y ∈ L, y.1 < 6 ∧ y.2 < 43
theorem vb_lt {t : Nat} (h : t < 43) : vb t < 8 := by
  by_cases h2 : t < 40
  · rw [vb_t h2]; decide
  · rcases (show t = 40 ∨ t = 41 ∨ t = 42 by omega) with rfl | rfl | rfl <;> decide
theorem or8 : ∀ a, a < 8 → ∀ b, b < 8 → a ||| b < 8 := by decide +kernel
theorem ptR_add {pn av ro te : Nat → Nat} {i x t : Nat} {L : List (Nat × Nat)} (h : ptR pn av ro te i L) (hx : x < 6) (ht : t < 43) : ptR (va_up pn i (pn i + 1)) (va_up av i (av i ||| vb t)) (va_up ro (i * 4 + pn i) x) (va_up te (i * 4 + pn i) t) i (L ++ [(x, t)]) := by
  obtain ⟨h1, h2, h3, h4⟩ := h
  refine ⟨by rw [va_up_self, h1]; simp, by rw [va_up_self, h2]; simp, fun j hj => ?_, fun y hy => ?_⟩
  · rw [List.length_append] at hj
    simp only [List.length_cons, List.length_nil] at hj
    by_cases e : j = L.length
    · subst e
      rw [h1, va_up_self, va_up_self]
      simp
    · have e3 : (L ++ [(x, t)]).getD j (0, 0) = L.getD j (0, 0) := by simp [List.getD_eq_getElem?_getD, List.getElem?_append_left (show j < L.length by omega)]
      rw [h1, va_up_ne _ _ (by omega), va_up_ne _ _ (by omega), e3]
      exact h3 j (by omega)
  · rcases List.mem_append.mp hy with h5 | h5
    · exact h4 y h5
    · simp only [List.mem_singleton] at h5
      subst h5
      exact ⟨hx, ht⟩
/-- the arrays are as they were below atom n -/
def sameB (n : Nat) (pn av ro te pn' av' ro' te' : Nat → Nat) : Prop := (∀ i, i < n → pn' i = pn i ∧ av' i = av i) ∧ ∀ j, j < n * 4 → ro' j = ro j ∧ te' j = te j
theorem sameB_add {n x t : Nat} {pn av ro te pn' av' ro' te' : Nat → Nat} (h : sameB n pn av ro te pn' av' ro' te') : sameB n pn av ro te (va_up pn' n (pn' n + 1)) (va_up av' n (av' n ||| vb t)) (va_up ro' (n * 4 + pn' n) x) (va_up te' (n * 4 + pn' n) t) := ⟨fun i hi => by rw [va_up_ne _ _ (by omega), va_up_ne _ _ (by omega)]; exact h.1 i hi, fun j hj => by rw [va_up_ne _ _ (by omega), va_up_ne _ _ (by omega)]; exact h.2 j hj⟩
theorem sameB_new {n : Nat} {pn av ro te : Nat → Nat} : sameB n pn av ro te (va_up pn n 0) (va_up av n 0) ro te := ⟨fun i hi => by rw [va_up_ne _ _ (by omega), va_up_ne _ _ (by omega)]; exact ⟨rfl, rfl⟩, fun j hj => ⟨rfl, rfl⟩⟩
theorem ptR_0 {pn av ro te : Nat → Nat} {i : Nat} : ptR (va_up pn i 0) (va_up av i 0) ro te i [] := ⟨va_up_self _ _ _, va_up_self _ _ _, fun j hj => absurd hj (Nat.not_lt_zero j), fun y hy => by cases hy⟩
theorem ptR_av {pn av ro te : Nat → Nat} {i : Nat} {L : List (Nat × Nat)} (h : ptR pn av ro te i L) : av i < 8 := by
  rw [h.2.1]
  have key : ∀ (L : List (Nat × Nat)) (u : Nat), u < 8 → (∀ y ∈ L, y.1 < 6 ∧ y.2 < 43) → L.foldl (fun u x => u ||| vb x.2) u < 8 := by
    intro L
    induction L with
    | nil => intro u hu _; exact hu
    | cons a L ih => intro u hu hL; exact ih _ (or8 u hu _ (vb_lt (hL a List.mem_cons_self).2)) (fun y hy => hL y (List.mem_cons_of_mem _ hy))
  exact key L 0 (by decide) h.2.2.2
