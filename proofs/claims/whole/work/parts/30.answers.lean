/-- what a term is worth -/
def vlT (lst : Nat → Nat) (a b c t : Nat) : Nat := if t < 40 then lst t else if t = 40 then a else if t = 41 then b else c
def cmp3 (a b c v : Nat) : Nat := if v = 0 then a else if v = 1 then b else c
/-- there is a line of atom i for a, b and c -/
def aTr (n : Nat) (K : Nat → Nat → Prop) (T : Nat → Nat → Nat → Prop) (lst ro te pn : Nat → Nat) (i a b c : Nat) : Prop := ∃ q, q < n ∧ K q i ∧ ∀ p, p < pn i → T q (ro (i * 4 + p)) (vlT lst a b c (te (i * 4 + p)))
/-- a, b and c are an answer -/
def ANS (n : Nat) (K : Nat → Nat → Prop) (T : Nat → Nat → Nat → Prop) (lst ro te pn : Nat → Nat) (nt : Nat → Bool) (uv aa a b c : Nat) : Prop := (∀ v, v < 3 → uv.testBit v = false → cmp3 a b c v = 0) ∧ ∀ i, i < aa → (aTr n K T lst ro te pn i a b c ↔ nt i = false)
section AS
variable {n uv aa : Nat} {K : Nat → Nat → Prop} {T : Nat → Nat → Nat → Prop} {lst ro te pn : Nat → Nat} {nt : Nat → Bool} {sx dm : Nat → Int64} {ft : Nat → Nat} {i a b c : Nat}
theorem rT_ex (m : Nat) : rT sx i a b c m = true ↔ ∃ f, f < m ∧ inS (sx ((i * 120 + f) * 3)) a = true ∧ inS (sx ((i * 120 + f) * 3 + 1)) b = true ∧ inS (sx ((i * 120 + f) * 3 + 2)) c = true := by
  induction m with
  | zero => exact ⟨fun h => (by cases h), fun ⟨f, h, _⟩ => absurd h (Nat.not_lt_zero f)⟩
  | succ m ih =>
    rw [rT, Bool.or_eq_true, ih, Bool.and_eq_true, Bool.and_eq_true]
    constructor
    · rintro (⟨f, h1, h2⟩ | h)
      · exact ⟨f, by omega, h2⟩
      · exact ⟨m, by omega, h⟩
    · rintro ⟨f, h1, h2⟩
      by_cases e : f = m
      · subst e; exact Or.inr h2
      · exact Or.inl ⟨f, by omega, h2⟩
theorem vlT_v {v : Nat} (hv : v < 3) : vlT lst a b c (40 + v) = cmp3 a b c v := by
  rcases (show v = 0 ∨ v = 1 ∨ v = 2 by omega) with rfl | rfl | rfl <;> rfl
theorem sV_all {q : Nat} (ht : ∀ p, p < pn i → te (i * 4 + p) < 43) (ha : a < 40) (hb : b < 40) (hc : c < 40) : (∀ p, p < pn i → T q (ro (i * 4 + p)) (vlT lst a b c (te (i * 4 + p)))) ↔ (∀ p, p < pn i → te (i * 4 + p) < 40 → T q (ro (i * 4 + p)) (lst (te (i * 4 + p)))) ∧ ∀ v, v < 3 → sV (T q) ro te i v (pn i) (cmp3 a b c v) := by
  constructor
  · intro h
    refine ⟨fun p hp h4 => ?_, fun v hv => ⟨?_, fun p hp h4 => ?_⟩⟩
    · have h1 := h p hp
      rw [vlT, if_pos h4] at h1
      exact h1
    · rcases (show v = 0 ∨ v = 1 ∨ v = 2 by omega) with rfl | rfl | rfl <;> assumption
    · have h1 := h p hp
      rw [h4, vlT_v hv] at h1
      exact h1
  · rintro ⟨h1, h2⟩ p hp
    by_cases h4 : te (i * 4 + p) < 40
    · rw [vlT, if_pos h4]
      exact h1 p hp h4
    · have h5 := ht p hp
      have h6 : te (i * 4 + p) = 40 + (te (i * 4 + p) - 40) := by omega
      rw [h6, vlT_v (by omega)]
      exact (h2 (te (i * 4 + p) - 40) (by omega)).2 p hp h6
theorem rT_iff (hg : gd K T lst ro te pn i n sx ft) (ht : ∀ p, p < pn i → te (i * 4 + p) < 43) (ha : a < 40) (hb : b < 40) (hc : c < 40) : rT sx i a b c (ft i) = true ↔ aTr n K T lst ro te pn i a b c := by
  rw [rT_ex]
  constructor
  · rintro ⟨f, h1, h2, h3, h4⟩
    obtain ⟨q, k1, k2, k3, k4⟩ := hg.2.1 f h1
    refine ⟨q, k1, k2, (sV_all ht ha hb hc).mpr ⟨k3.1, fun v hv => ?_⟩⟩
    rw [← k4 v hv]
    rcases (show v = 0 ∨ v = 1 ∨ v = 2 by omega) with rfl | rfl | rfl <;> assumption
  · rintro ⟨q, k1, k2, k3⟩
    obtain ⟨h1, h2⟩ := (sV_all ht ha hb hc).mp k3
    obtain ⟨f, j1, j2⟩ := hg.2.2 q k1 k2 ⟨h1, fun v hv => ⟨_, h2 v hv⟩⟩
    exact ⟨f, j1, (j2 0 (by decide) _).mpr (h2 0 (by decide)), (j2 1 (by decide) _).mpr (h2 1 (by decide)), (j2 2 (by decide) _).mpr (h2 2 (by decide))⟩
theorem dm_in {v t : Nat} {d : Int64} (hd : dmO uv aa nt sx ft v d) (h0 : uv.testBit v = false → t = 0) (h40 : t < 40) (h1 : ∀ i, i < aa → nt i = false → fS sx i v (ft i) t) : inS d t = true := by
  cases hu : uv.testBit v with
  | false => exact (hd.1 hu t).mpr (h0 hu)
  | true => exact (hd.2 hu t).mpr ⟨h40, h1⟩
theorem an_iff (hg : ∀ i, i < aa → gd K T lst ro te pn i n sx ft) (hd : ∀ v, v < 3 → dmO uv aa nt sx ft v (dm v)) (ht : ∀ i, i < aa → ∀ p, p < pn i → te (i * 4 + p) < 43) (ha : a < 40) (hb : b < 40) (hc : c < 40) : an dm sx ft nt aa a b c = true ↔ ANS n K T lst ro te pn nt uv aa a b c := by
  rw [an, Bool.and_eq_true, Bool.and_eq_true, Bool.and_eq_true, List.all_eq_true]
  constructor
  · rintro ⟨h0, h1, h2, h3⟩
    refine ⟨fun v hv hu => ?_, fun i hi => ?_⟩
    · rcases (show v = 0 ∨ v = 1 ∨ v = 2 by omega) with rfl | rfl | rfl
      · exact ((hd 0 (by decide)).1 hu a).mp h0
      · exact ((hd 1 (by decide)).1 hu b).mp h1
      · exact ((hd 2 (by decide)).1 hu c).mp h2
    · have h4 := eq_of_beq (h3 i (List.mem_range.mpr hi))
      rw [← rT_iff (hg i hi) (ht i hi) ha hb hc, h4]
      cases nt i <;> simp
  · rintro ⟨h0, h1⟩
    have h3 : ∀ i, i < aa → nt i = false → ∃ f, f < ft i ∧ inS (sx ((i * 120 + f) * 3)) a = true ∧ inS (sx ((i * 120 + f) * 3 + 1)) b = true ∧ inS (sx ((i * 120 + f) * 3 + 2)) c = true := fun i hi hn => (rT_ex _).mp ((rT_iff (hg i hi) (ht i hi) ha hb hc).mpr ((h1 i hi).mpr hn))
    refine ⟨dm_in (hd 0 (by decide)) (h0 0 (by decide)) ha (fun i hi hn => ?_), dm_in (hd 1 (by decide)) (h0 1 (by decide)) hb (fun i hi hn => ?_), dm_in (hd 2 (by decide)) (h0 2 (by decide)) hc (fun i hi hn => ?_), fun i hi => ?_⟩
    · obtain ⟨f, a1, a2, a3, a4⟩ := h3 i hi hn; exact ⟨f, a1, a2⟩
    · obtain ⟨f, a1, a2, a3, a4⟩ := h3 i hi hn; exact ⟨f, a1, a3⟩
    · obtain ⟨f, a1, a2, a3, a4⟩ := h3 i hi hn; exact ⟨f, a1, a4⟩
    · have hi := List.mem_range.mp hi
      have h4 := (rT_iff (hg i hi) (ht i hi) ha hb hc).trans (h1 i hi)
      cases hn : nt i with
      | false => rw [h4.mpr hn]; rfl
      | true =>
        have h5 : rT sx i a b c (ft i) = false := by
          cases h6 : rT sx i a b c (ft i) with
          | false => rfl
          | true => rw [h4.mp h6] at hn; cases hn
        rw [h5]; rfl
end AS
