section RB
variable {tb : Nat → Nat} {len : Nat} {nt : Bool} {v : Nat}
theorem rp_bit {uv p p' x t uv' : Nat} (h : rdPart tb len nt uv p = .inr (p', x, t, uv')) (hb : uv'.testBit v = true) : uv.testBit v = true ∨ nt = false ∧ t = 40 + v := by
  simp only [rdPart] at h
  split at h
  · cases h
  · split at h
    · cases h
    · split at h
      · split at h
        · cases h; exact Or.inl hb
        · cases h
      · split at h
        · cases h
        · split at h
          · cases h
          · rename_i h9
            cases h
            rw [Nat.testBit_or, Bool.or_eq_true, Nat.testBit_two_pow, decide_eq_true_eq] at hb
            rcases hb with hb | hb
            · exact Or.inl hb
            · rw [hb] at h9
              cases hn : nt with
              | false => exact Or.inr ⟨rfl, by rw [hb]⟩
              | true =>
                cases hu : uv.testBit v with
                | true => exact Or.inl rfl
                | false => exact absurd ⟨hn, hu⟩ h9
theorem rps_bit : ∀ (m g uv p q : Nat) (L : List (Nat × Nat)) (u : Nat), rdParts tb len nt m g uv p = .inr (q, L, u) → u.testBit v = true → uv.testBit v = true ∨ nt = false ∧ ∃ y ∈ L, y.2 = 40 + v := by
  intro m
  induction m with
  | zero => intro g uv p q L u h; cases h
  | succ m ih =>
    intro g uv p q L u h hb
    rw [rdParts] at h
    cases hp : rdPart tb len nt uv p with
    | inl f => rw [hp] at h; cases h
    | inr w =>
      obtain ⟨p', x, t, uv'⟩ := w
      rw [hp] at h
      simp only at h
      split at h
      · cases hr : rdParts tb len nt m (sk tb len p') uv' (ps tb len p') with
        | inl f => rw [hr] at h; cases h
        | inr w2 =>
          obtain ⟨q2, L2, u2⟩ := w2
          rw [hr] at h
          cases h
          rcases ih _ _ _ _ _ _ hr hb with h1 | ⟨h1, y, h2, h3⟩
          · rcases rp_bit hp h1 with h4 | ⟨h4, h5⟩
            · exact Or.inl h4
            · exact Or.inr ⟨h4, (x, t), by simp, h5⟩
          · exact Or.inr ⟨h1, y, by simp [h2], h3⟩
      · split at h
        · cases h
          rcases rp_bit hp hb with h4 | ⟨h4, h5⟩
          · exact Or.inl h4
          · exact Or.inr ⟨h4, (x, t), by simp, h5⟩
        · cases h
theorem ra1_bit {uv p q u : Nat} {a : Nat × Bool × List (Nat × Nat)} (h : rdAtom1 tb len nt uv p = .inr (q, a, u)) (hb : u.testBit v = true) : uv.testBit v = true ∨ a.2.1 = false ∧ ∃ y ∈ a.2.2, y.2 = 40 + v := by
  rw [rdAtom1] at h
  split at h
  · cases h
  · split at h
    · cases h
    · split at h
      · cases h
      · split at h
        · cases h
        · rename_i hr
          cases h
          exact rps_bit _ _ _ _ _ _ _ hr hb
theorem ra_bit {uv p q u : Nat} {a : Nat × Bool × List (Nat × Nat)} (h : rdAtom tb len uv p = .inr (q, a, u)) (hb : u.testBit v = true) : uv.testBit v = true ∨ a.2.1 = false ∧ ∃ y ∈ a.2.2, y.2 = 40 + v := by
  rw [rdAtom] at h
  split at h <;> exact ra1_bit h hb
theorem rall_bit : ∀ (m g uv p : Nat) (A : List Atom) (u : Nat), rdAll tb len m g uv p = .inr (A, u) → u.testBit v = true → uv.testBit v = true ∨ ∃ a ∈ A, a.2.1 = false ∧ ∃ y ∈ a.2.2, y.2 = 40 + v := by
  intro m
  induction m with
  | zero => intro g uv p A u h; cases h
  | succ m ih =>
    intro g uv p A u h hb
    rw [rdAll] at h
    cases hp : rdAtom tb len uv p with
    | inl f => rw [hp] at h; cases h
    | inr w =>
      obtain ⟨p', a, uv'⟩ := w
      rw [hp] at h
      simp only at h
      split at h
      · cases hr : rdAll tb len m (sk tb len p') uv' (ps tb len p') with
        | inl f => rw [hr] at h; cases h
        | inr w2 =>
          obtain ⟨A2, u2⟩ := w2
          rw [hr] at h
          cases h
          rcases ih _ _ _ _ _ hr hb with h1 | ⟨b, h1, h2⟩
          · rcases ra_bit hp h1 with h4 | h4
            · exact Or.inl h4
            · exact Or.inr ⟨a, by simp, h4⟩
          · exact Or.inr ⟨b, by simp [h1], h2⟩
      · split at h
        · cases h
          rcases ra_bit hp hb with h4 | h4
          · exact Or.inl h4
          · exact Or.inr ⟨a, by simp, h4⟩
        · cases h
theorem hpos_of {A : List Atom} {u : Nat} {kn pn av ro te : Nat → Nat} {nq : Nat → Bool} (h : rdAll tb len 6 0 0 0 = .inr (A, u)) (hq : qR kn nq pn av ro te A) : ∀ v, v < 3 → u.testBit v = true → ∃ i, i < A.length ∧ nq i = false ∧ ∃ k, k < pn i ∧ te (i * 4 + k) = 40 + v := fun v hv hb => by
  rcases rall_bit _ _ _ _ _ _ h hb with h1 | ⟨a, h1, h2, y, h3, h4⟩
  · rw [Nat.zero_testBit] at h1; cases h1
  · obtain ⟨i, hi, rfl⟩ := List.getElem_of_mem h1
    obtain ⟨k, hk, rfl⟩ := List.getElem_of_mem h3
    obtain ⟨-, -, a3, a4, -⟩ := hq i hi
    have e : A.getD i (0, false, []) = A[i] := by simp [List.getD_eq_getElem?_getD, hi]
    rw [e] at a3 a4
    obtain ⟨b1, -, b3, -⟩ := a4
    refine ⟨i, hi, a3.trans h2, k, by rw [b1]; exact hk, ?_⟩
    have e2 : (A[i].2.2).getD k (0, 0) = A[i].2.2[k] := by simp [List.getD_eq_getElem?_getD, hk]
    rw [(b3 k hk).2, e2]
    exact h4
end RB
/-! things that are one -/
section JN
variable {oa ob oa' ob' : Nat → Nat} {k : Nat}
def hK (oa ob : Nat → Nat) : Nat → Nat → Nat
  | 0, t => t
  | k + 1, t => if t = max (asK oa ob k (oa k)) (asK oa ob k (ob k)) then min (asK oa ob k (oa k)) (asK oa ob k (ob k)) else hK oa ob k t
theorem asK_le : ∀ k t, asK oa ob k t ≤ t := by
  intro k
  induction k with
  | zero => intro t; exact Nat.le_refl t
  | succ k ih =>
    intro t
    have h := ih t
    rw [asK]
    split
    · rename_i h1; omega
    · exact h
theorem asK_id : ∀ k t, asK oa ob k (asK oa ob k t) = asK oa ob k t := by
  intro k
  induction k with
  | zero => intro t; rfl
  | succ k ih =>
    intro t
    have hA := ih (oa k)
    have hB := ih (ob k)
    have hT := ih t
    by_cases h : asK oa ob k t = asK oa ob k (oa k) ∨ asK oa ob k t = asK oa ob k (ob k)
    · have e : asK oa ob (k + 1) t = min (asK oa ob k (oa k)) (asK oa ob k (ob k)) := by rw [asK, if_pos h]
      rw [e, asK, if_pos]
      rcases (show min (asK oa ob k (oa k)) (asK oa ob k (ob k)) = asK oa ob k (oa k) ∨ min (asK oa ob k (oa k)) (asK oa ob k (ob k)) = asK oa ob k (ob k) by omega) with h1 | h1
      · rw [h1]; exact Or.inl hA
      · rw [h1]; exact Or.inr hB
    · have e : asK oa ob (k + 1) t = asK oa ob k t := by rw [asK, if_neg h]
      rw [e, asK, hT, if_neg h]
theorem hK_le : ∀ k t, hK oa ob k t ≤ t := by
  intro k
  induction k with
  | zero => intro t; exact Nat.le_refl t
  | succ k ih =>
    intro t
    have h := ih t
    rw [hK]
    split
    · omega
    · exact h
theorem hK_rt : ∀ k, (∀ i, i < k → asK oa ob i (oa i) ≠ asK oa ob i (ob i)) → ∀ t, asK oa ob k t = if hK oa ob k t = t then t else asK oa ob k (hK oa ob k t) := by
  intro k
  induction k with
  | zero => intro _ t; show t = if t = t then t else t; rw [if_pos rfl]
  | succ k ih =>
    intro h t
    have hr := ih (fun i hi => h i (by omega))
    have hne := h k (by omega)
    have hA := asK_id (oa := oa) (ob := ob) k (oa k)
    have hB := asK_id (oa := oa) (ob := ob) k (ob k)
    have hm : asK oa ob k (min (asK oa ob k (oa k)) (asK oa ob k (ob k))) = min (asK oa ob k (oa k)) (asK oa ob k (ob k)) := by
      rcases (show min (asK oa ob k (oa k)) (asK oa ob k (ob k)) = asK oa ob k (oa k) ∨ min (asK oa ob k (oa k)) (asK oa ob k (ob k)) = asK oa ob k (ob k) by omega) with h1 | h1 <;> rw [h1] <;> assumption
    have hM : asK oa ob k (max (asK oa ob k (oa k)) (asK oa ob k (ob k))) = max (asK oa ob k (oa k)) (asK oa ob k (ob k)) := by
      rcases (show max (asK oa ob k (oa k)) (asK oa ob k (ob k)) = asK oa ob k (oa k) ∨ max (asK oa ob k (oa k)) (asK oa ob k (ob k)) = asK oa ob k (ob k) by omega) with h1 | h1 <;> rw [h1] <;> assumption
    by_cases e : t = max (asK oa ob k (oa k)) (asK oa ob k (ob k))
    · have e1 : hK oa ob (k + 1) t = min (asK oa ob k (oa k)) (asK oa ob k (ob k)) := by rw [hK, if_pos e]
      rw [e1, if_neg (by omega), asK, asK, e, hM, hm, if_pos (by omega), if_pos (by omega)]
    · have e1 : hK oa ob (k + 1) t = hK oa ob k t := by rw [hK, if_neg e]
      rw [e1]
      have h1 := hr t
      by_cases e2 : hK oa ob k t = t
      · rw [if_pos e2] at h1 ⊢
        rw [asK, h1]
        split
        · omega
        · rfl
      · rw [if_neg e2] at h1 ⊢
        rw [asK, asK, h1]
theorem rt_uniq {hg lA lB : Nat → Nat} (hh : ∀ t, t < 40 → hg t ≤ t) (h : isRt hg lA 40) (h' : ∀ t, t < 40 → lB t = if hg t = t then t else lB (hg t)) : ∀ t, t < 40 → lA t = lB t := by
  intro t
  induction t using Nat.strongRecOn with
  | _ t ih =>
    intro ht
    rw [h t ht, h' t ht]
    by_cases e : hg t = t
    · rw [if_pos e, if_pos e]
    · have := hh t ht
      rw [if_neg e, if_neg e, ih (hg t) (by omega) (by omega)]
theorem asK_cg : ∀ k, (∀ i, i < k → oa i = oa' i ∧ ob i = ob' i) → ∀ t, asK oa ob k t = asK oa' ob' k t := by
  intro k
  induction k with
  | zero => intro _ t; rfl
  | succ k ih =>
    intro h t
    have h1 := ih (fun i hi => h i (by omega))
    rw [asK, asK, h1, h1, h1, (h k (by omega)).1, (h k (by omega)).2]
theorem hK_cg : ∀ k, (∀ i, i < k → oa i = oa' i ∧ ob i = ob' i) → ∀ t, hK oa ob k t = hK oa' ob' k t := by
  intro k
  induction k with
  | zero => intro _ t; rfl
  | succ k ih =>
    intro h t
    have h1 := ih (fun i hi => h i (by omega))
    have h2 := asK_cg (oa := oa) (ob := ob) (oa' := oa') (ob' := ob') k (fun i hi => h i (by omega))
    rw [hK, hK, h1, h2, h2, (h k (by omega)).1, (h k (by omega)).2]
theorem cntB_rm {p p' : Nat → Bool} {x : Nat} : ∀ N, x < N → p x = true → p' x = false → (∀ t, t ≠ x → p' t = p t) → cntB p' N + 1 = cntB p N := by
  intro N
  induction N with
  | zero => intro h; exact absurd h (Nat.not_lt_zero x)
  | succ N ih =>
    intro h h1 h2 h3
    by_cases e : x = N
    · subst e
      rw [cntB_t h1, cntB_f h2]
      congr 1
      exact cntB_congr (fun i hi => h3 i (by omega))
    · have h4 := ih (by omega) h1 h2 h3
      rw [cntB, cntB, h3 N (fun e2 => e e2.symm)]
      split <;> omega
theorem cntB_ps {p : Nat → Bool} {x : Nat} : ∀ N, x < N → p x = true → 0 < cntB p N := by
  intro N
  induction N with
  | zero => intro h; exact absurd h (Nat.not_lt_zero x)
  | succ N ih =>
    intro h h1
    by_cases e : x = N
    · subst e; rw [cntB_t h1]; omega
    · have := ih (by omega) h1
      rw [cntB]; split <;> omega
theorem asK_cn : ∀ k, (∀ i, i < k → oa i < 40 ∧ ob i < 40 ∧ asK oa ob i (oa i) ≠ asK oa ob i (ob i)) → cntB (fun t => decide (asK oa ob k t = t)) 40 + k = 40 := by
  intro k
  induction k with
  | zero => intro _; rfl
  | succ k ih =>
    intro h
    have h1 := ih (fun i hi => h i (by omega))
    obtain ⟨ha, hb, hne⟩ := h k (by omega)
    have hA := asK_id (oa := oa) (ob := ob) k (oa k)
    have hB := asK_id (oa := oa) (ob := ob) k (ob k)
    have lA := asK_le (oa := oa) (ob := ob) k (oa k)
    have lB := asK_le (oa := oa) (ob := ob) k (ob k)
    have hM : asK oa ob k (max (asK oa ob k (oa k)) (asK oa ob k (ob k))) = max (asK oa ob k (oa k)) (asK oa ob k (ob k)) := by
      rcases (show max (asK oa ob k (oa k)) (asK oa ob k (ob k)) = asK oa ob k (oa k) ∨ max (asK oa ob k (oa k)) (asK oa ob k (ob k)) = asK oa ob k (ob k) by omega) with h1 | h1 <;> rw [h1] <;> assumption
    have h2 := cntB_rm (p := fun t => decide (asK oa ob k t = t)) (p' := fun t => decide (asK oa ob (k + 1) t = t)) (x := max (asK oa ob k (oa k)) (asK oa ob k (ob k))) 40 (by omega) (decide_eq_true hM) (decide_eq_false (by rw [asK, hM, if_pos (by omega)]; omega)) (fun t ht => by
      show decide (asK oa ob (k + 1) t = t) = decide (asK oa ob k t = t)
      have key : asK oa ob (k + 1) t = t ↔ asK oa ob k t = t := by
        have hT := asK_le (oa := oa) (ob := ob) k t
        rw [asK]
        split
        · rename_i h9
          constructor
          · intro h8
            rcases (show min (asK oa ob k (oa k)) (asK oa ob k (ob k)) = asK oa ob k (oa k) ∨ min (asK oa ob k (oa k)) (asK oa ob k (ob k)) = asK oa ob k (ob k) by omega) with h7 | h7
            · rw [← h8, h7]; exact hA
            · rw [← h8, h7]; exact hB
          · intro h8; omega
        · exact Iff.rfl
      by_cases h9 : asK oa ob k t = t
      · rw [decide_eq_true h9, decide_eq_true (key.mpr h9)]
      · rw [decide_eq_false h9, decide_eq_false (fun h8 => h9 (key.mp h8))])
    omega
/-- both sides' words on which things are one -/
def JI (jn : Nat) (hg lst jd oa ob : Nat → Nat) : Prop := (∀ i, i < jn → oa i < 40 ∧ ob i < 40 ∧ asK oa ob i (oa i) ≠ asK oa ob i (ob i)) ∧ (∀ i, i < jn → jd i = max (asK oa ob i (oa i)) (asK oa ob i (ob i))) ∧ (∀ t, t < 40 → hg t = hK oa ob jn t) ∧ ∀ t, t < 40 → lst t = asK oa ob jn t
section JQ
variable {jn : Nat} {hg lst jd : Nat → Nat}
theorem ji_lst (h : JI jn hg lst jd oa ob) : ∀ t, t < 40 → lst t < 40 := fun t ht => by rw [h.2.2.2 t ht]; have := asK_le (oa := oa) (ob := ob) jn t; omega
theorem ji_id (h : JI jn hg lst jd oa ob) : ∀ t, t < 40 → lst (lst t) = lst t := fun t ht => by
  have h1 := asK_le (oa := oa) (ob := ob) jn t
  rw [h.2.2.2 t ht, h.2.2.2 _ (by omega)]
  exact asK_id jn t
theorem ji_hg (h : JI jn hg lst jd oa ob) : ∀ t, t < 40 → hg t ≤ t := fun t ht => by rw [h.2.2.1 t ht]; exact hK_le jn t
theorem ji_cn (h : JI jn hg lst jd oa ob) : cntB (fun t => decide (lst t = t)) 40 + jn = 40 := by
  have e : cntB (fun t => decide (lst t = t)) 40 = cntB (fun t => decide (asK oa ob jn t = t)) 40 := cntB_congr (fun t ht => by show decide (lst t = t) = decide (asK oa ob jn t = t); rw [h.2.2.2 t ht])
  rw [e]
  exact asK_cn jn h.1
theorem ji_le (h : JI jn hg lst jd oa ob) : jn ≤ 40 := by have := ji_cn h; omega
theorem ji_jd (h : JI jn hg lst jd oa ob) : ∀ i, i < jn → jd i < 40 := fun i hi => by
  have h1 := h.1 i hi
  have l1 := asK_le (oa := oa) (ob := ob) i (oa i)
  have l2 := asK_le (oa := oa) (ob := ob) i (ob i)
  rw [h.2.1 i hi]
  omega
theorem ji_ab (h : JI jn hg lst jd oa ob) : ∀ i, i < jn → oa i < 40 ∧ ob i < 40 := fun i hi => ⟨(h.1 i hi).1, (h.1 i hi).2.1⟩
theorem ji_lt (h : JI jn hg lst jd oa ob) {a : Nat} (ha : a < 40) : jn < 40 := by
  have h1 := cntB_ps (p := fun t => decide (lst t = t)) (x := lst a) 40 (ji_lst h a ha) (decide_eq_true (ji_id h a ha))
  have := ji_cn h
  omega
theorem ji_join (h : JI jn hg lst jd oa ob) {a b : Nat} {l2 l3 : Nat → Nat} (ha : a < 40) (hb : b < 40) (hne : lst a ≠ lst b) (h2 : isRt (va_up hg (max (lst a) (lst b)) (min (lst a) (lst b))) l2 40) (h3 : ∀ t, t < 40 → l3 t = asK (va_up oa jn a) (va_up ob jn b) (jn + 1) t) : JI (jn + 1) (va_up hg (max (lst a) (lst b)) (min (lst a) (lst b))) l2 (va_up jd jn (max (lst a) (lst b))) (va_up oa jn a) (va_up ob jn b) ∧ ∀ t, t < 40 → l3 t = l2 t := by
  have cg : ∀ k, k ≤ jn → ∀ t, asK (va_up oa jn a) (va_up ob jn b) k t = asK oa ob k t := fun k hk => asK_cg k (fun i hi => ⟨va_up_ne _ _ (by omega), va_up_ne _ _ (by omega)⟩)
  have ea : lst a = asK oa ob jn a := h.2.2.2 a ha
  have eb : lst b = asK oa ob jn b := h.2.2.2 b hb
  have c1 : ∀ i, i < jn + 1 → va_up oa jn a i < 40 ∧ va_up ob jn b i < 40 ∧ asK (va_up oa jn a) (va_up ob jn b) i (va_up oa jn a i) ≠ asK (va_up oa jn a) (va_up ob jn b) i (va_up ob jn b i) := fun i hi => by
    rw [cg i (by omega), cg i (by omega)]
    by_cases e : i = jn
    · subst e; rw [va_up_self, va_up_self, ← ea, ← eb]; exact ⟨ha, hb, hne⟩
    · rw [va_up_ne _ _ e, va_up_ne _ _ e]; exact h.1 i (by omega)
  have c3 : ∀ t, t < 40 → va_up hg (max (lst a) (lst b)) (min (lst a) (lst b)) t = hK (va_up oa jn a) (va_up ob jn b) (jn + 1) t := fun t ht => by
    rw [hK, cg jn (Nat.le_refl _), cg jn (Nat.le_refl _), va_up_self, va_up_self, ← ea, ← eb]
    by_cases e : t = max (lst a) (lst b)
    · rw [if_pos e, ← e, va_up_self]
    · rw [if_neg e, va_up_ne _ _ e, h.2.2.1 t ht]
      exact hK_cg jn (fun i hi => ⟨(va_up_ne _ _ (by omega)).symm, (va_up_ne _ _ (by omega)).symm⟩) t
  have c4 : ∀ t, t < 40 → l2 t = asK (va_up oa jn a) (va_up ob jn b) (jn + 1) t := rt_uniq (fun t ht => by rw [c3 t ht]; exact hK_le _ t) h2 (fun t ht => by
    rw [c3 t ht]
    exact hK_rt (jn + 1) (fun i hi => (c1 i hi).2.2) t)
  refine ⟨⟨c1, fun i hi => ?_, c3, c4⟩, fun t ht => (h3 t ht).trans (c4 t ht).symm⟩
  rw [cg i (by omega), cg i (by omega)]
  by_cases e : i = jn
  · subst e; rw [va_up_self, va_up_self, va_up_self, ← ea, ← eb]
  · rw [va_up_ne _ _ e, va_up_ne _ _ e, va_up_ne _ _ e]; exact h.2.1 i (by omega)
theorem ji_part (h : JI jn hg lst jd oa ob) {l2 l3 : Nat → Nat} (h0 : 0 < jn) (h2 : isRt (va_up hg (jd (jn - 1)) (jd (jn - 1))) l2 40) (h3 : ∀ t, t < 40 → l3 t = asK oa ob (jn - 1) t) : JI (jn - 1) (va_up hg (jd (jn - 1)) (jd (jn - 1))) l2 jd oa ob ∧ ∀ t, t < 40 → l3 t = l2 t := by
  obtain ⟨k, rfl⟩ : ∃ k, jn = k + 1 := ⟨jn - 1, by omega⟩
  rw [show k + 1 - 1 = k by omega] at *
  have hne : ∀ i, i < k → asK oa ob i (oa i) ≠ asK oa ob i (ob i) := fun i hi => (h.1 i (by omega)).2.2
  have ej := h.2.1 k (by omega)
  have hA := asK_id (oa := oa) (ob := ob) k (oa k)
  have hB := asK_id (oa := oa) (ob := ob) k (ob k)
  have hM : asK oa ob k (max (asK oa ob k (oa k)) (asK oa ob k (ob k))) = max (asK oa ob k (oa k)) (asK oa ob k (ob k)) := by
    rcases (show max (asK oa ob k (oa k)) (asK oa ob k (ob k)) = asK oa ob k (oa k) ∨ max (asK oa ob k (oa k)) (asK oa ob k (ob k)) = asK oa ob k (ob k) by omega) with h1 | h1 <;> rw [h1] <;> assumption
  have hr := hK_rt k hne (max (asK oa ob k (oa k)) (asK oa ob k (ob k)))
  have hMr : hK oa ob k (max (asK oa ob k (oa k)) (asK oa ob k (ob k))) = max (asK oa ob k (oa k)) (asK oa ob k (ob k)) := by
    by_cases e : hK oa ob k (max (asK oa ob k (oa k)) (asK oa ob k (ob k))) = max (asK oa ob k (oa k)) (asK oa ob k (ob k))
    · exact e
    · rw [if_neg e, hM] at hr
      have l1 := asK_le (oa := oa) (ob := ob) k (hK oa ob k (max (asK oa ob k (oa k)) (asK oa ob k (ob k))))
      have l2 := hK_le (oa := oa) (ob := ob) k (max (asK oa ob k (oa k)) (asK oa ob k (ob k)))
      omega
  have c3 : ∀ t, t < 40 → va_up hg (jd k) (jd k) t = hK oa ob k t := fun t ht => by
    by_cases e : t = jd k
    · subst e; rw [va_up_self, ej, hMr]
    · rw [va_up_ne _ _ e, h.2.2.1 t ht, hK, if_neg (by rw [← ej]; exact e)]
  have c4 : ∀ t, t < 40 → l2 t = asK oa ob k t := rt_uniq (fun t ht => by rw [c3 t ht]; exact hK_le _ t) h2 (fun t ht => by rw [c3 t ht]; exact hK_rt k hne t)
  exact ⟨⟨fun i hi => h.1 i (by omega), fun i hi => h.2.1 i (by omega), c3, c4⟩, fun t ht => (h3 t ht).trans (c4 t ht).symm⟩
end JQ
theorem ji_0 {hg lst jd : Nat → Nat} (h : ∀ t, t < 40 → hg t = t ∧ lst t = t) : JI 0 hg lst jd oa ob := ⟨fun i hi => absurd hi (Nat.not_lt_zero i), fun i hi => absurd hi (Nat.not_lt_zero i), fun t ht => (h t ht).1, fun t ht => (h t ht).2⟩
end JN
