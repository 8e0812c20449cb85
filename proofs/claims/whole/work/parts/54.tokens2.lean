section TK
variable {tb : Nat → Nat} {len p : Nat}
theorem run_n {P : Nat → Bool} {b : Nat} (h : run P len b ≠ b) : b < len ∧ P b = true := by
  by_cases h1 : b < len ∧ P b = true
  · exact h1
  · exact absurd (run_stop h1) h
theorem run_end {P : Nat → Bool} : ∀ (f b : Nat), ¬ (runF P len (f + (len - b)) b < len ∧ P (runF P len (f + (len - b)) b) = true) := by
  intro f b
  generalize hm : f + (len - b) = m
  induction m generalizing f b with
  | zero => simp only [runF]; omega
  | succ m ih =>
    simp only [runF]
    split
    · rename_i h; exact ih (f + (len - b) - 1 - (len - (b + 1))) (b + 1) (by omega)
    · assumption
theorem run_idem {P : Nat → Bool} {b : Nat} : run P len (run P len b) = run P len b := run_stop (by
  have h := run_end (len := len) (P := P) 0 b
  rw [Nat.zero_add] at h
  exact h)
theorem ps_w (h : run (ltr tb) len (run (bl tb) len p) ≠ run (bl tb) len p) : ps tb len p = run (ltr tb) len (run (bl tb) len p) := by
  obtain ⟨h1, h2⟩ := run_n h
  rw [ps, nxA, if_neg (by omega), if_pos h2]
theorem nI_ne {a b : Nat} (ha : a < 2 ^ 31) (hb : b < 2 ^ 31) (h : a ≠ b) : ¬ nI a = nI b := fun e => h ((nI_eq ha hb).mp e)
theorem nI_neg {a k : Nat} (ha : a < 2 ^ 31) (hk : 0 < k ∧ k < 2 ^ 31) : ¬ nI a = -(nI k) := fun e => by
  have h1 := nI_toInt ha
  have h2 : (-(nI k)).toInt = -(k : Int) := by rw [Int32.toInt_neg, nI_toInt hk.2]; exact Int.bmod_eq_of_le (by omega) (by omega)
  rw [e, h2] at h1
  omega
theorem tk_c {c : Nat} (hc : 97 ≤ c ∧ c ≤ 122) (htb : ∀ j, j < len → tb j < 256) : tkn tb len p = nI c ↔ (run (ltr tb) len (run (bl tb) len p) - run (bl tb) len p = 1 ∧ tb (run (bl tb) len p) = c) := by
  have hge := run_ge (ltr tb) len (run (bl tb) len p)
  rw [tkn, nxT]
  generalize hb : run (bl tb) len p = b at *
  by_cases h1 : len ≤ b
  · rw [if_pos h1, run_stop (by omega)]
    exact ⟨fun e => absurd e.symm (nI_neg (k := 1) (by omega) (by decide)), fun e => absurd e.1 (by omega)⟩
  · rw [if_neg h1]
    have hv := htb b (by omega)
    by_cases h2 : ltr tb b = true
    · rw [if_pos h2, tkW]
      by_cases h3 : run (ltr tb) len b - b = 1
      · rw [if_pos h3, nI_eq (by omega) (by omega)]; exact ⟨fun e => ⟨h3, e⟩, fun e => e.2⟩
      · rw [if_neg h3]
        refine ⟨fun e => ?_, fun e => absurd e.1 h3⟩
        split at e
        · exact absurd e.symm (nI_neg (k := 3) (by omega) (by decide))
        · exact absurd e.symm (nI_neg (k := 4) (by omega) (by decide))
    · rw [if_neg h2, run_stop (fun h => h2 h.2)]
      refine ⟨fun e => ?_, fun e => absurd e.1 (by omega)⟩
      split at e
      · exact absurd e.symm (nI_neg (k := 2) (by omega) (by decide))
      · have := (nI_eq (by omega) (by omega)).mp e
        exact absurd (decide_eq_true (by omega : 97 ≤ tb b ∧ tb b ≤ 122)) h2
theorem tk_not (htb : ∀ j, j < len → tb j < 256) : tkn tb len p = -3 ↔ (run (ltr tb) len (run (bl tb) len p) - run (bl tb) len p = 3 ∧ tb (run (bl tb) len p) = 110 ∧ tb (run (bl tb) len p + 1) = 111 ∧ tb (run (bl tb) len p + 2) = 116) := by
  have hge := run_ge (ltr tb) len (run (bl tb) len p)
  have e3 : (-3 : Int32) = -(nI 3) := by decide
  rw [tkn, nxT]
  generalize hb : run (bl tb) len p = b at *
  by_cases h1 : len ≤ b
  · rw [if_pos h1, run_stop (by omega)]
    exact ⟨fun e => absurd e (by decide), fun e => absurd e.1 (by omega)⟩
  · rw [if_neg h1]
    have hv := htb b (by omega)
    by_cases h2 : ltr tb b = true
    · rw [if_pos h2, tkW]
      by_cases h3 : run (ltr tb) len b - b = 1
      · rw [if_pos h3, e3]; exact ⟨fun e => absurd e (nI_neg (by omega) (by decide)), fun e => absurd e.1 (by omega)⟩
      · rw [if_neg h3]
        by_cases h4 : run (ltr tb) len b - b = 3 ∧ tb b = 110 ∧ tb (b + 1) = 111 ∧ tb (b + 2) = 116
        · rw [if_pos h4]; exact ⟨fun _ => h4, fun _ => rfl⟩
        · rw [if_neg h4]; exact ⟨fun e => absurd e (by decide), fun e => absurd e h4⟩
    · rw [if_neg h2, run_stop (fun h => h2 h.2)]
      refine ⟨fun e => ?_, fun e => absurd e.1 (by omega)⟩
      split at e
      · exact absurd e (by decide)
      · rw [e3] at e; exact absurd e (nI_neg (by omega) (by decide))
theorem isW_1 {b e k c : Nat} (h1 : sLen k = 1) (h2 : sBy k 0 = c) : isW tb b e k = true ↔ (e - b = 1 ∧ tb b = c) := by
  rw [isW, decide_eq_true_eq, h1]
  constructor
  · intro h; have := h.2 0 (by decide); rw [h2] at this; exact ⟨h.1, this⟩
  · intro h; refine ⟨h.1, fun j hj => ?_⟩; rw [show j = 0 by omega, h2]; exact h.2
theorem tW_y {k c : Nat} (htb : ∀ j, j < len → tb j < 256) (h1 : sLen k = 1) (h2 : sBy k 0 = c) (hc : 97 ≤ c ∧ c ≤ 122) (h : isW tb (run (bl tb) len p) (run (ltr tb) len (run (bl tb) len p)) k = true) : tkn tb len p = nI c ∧ run (ltr tb) len (run (bl tb) len p) = ps tb len p := by
  have h3 := (isW_1 h1 h2).mp h
  exact ⟨(tk_c hc htb).mpr h3, (ps_w (by omega)).symm⟩
theorem tW_n {k c : Nat} (htb : ∀ j, j < len → tb j < 256) (h1 : sLen k = 1) (h2 : sBy k 0 = c) (hc : 97 ≤ c ∧ c ≤ 122) (h : isW tb (run (bl tb) len p) (run (ltr tb) len (run (bl tb) len p)) k = false) : ¬ tkn tb len p = nI c := fun h3 => by
  rw [(isW_1 h1 h2).mpr ((tk_c hc htb).mp h3)] at h
  cases h
theorem isW_5 {b e : Nat} : isW tb b e 5 = true ↔ (e - b = 3 ∧ tb b = 110 ∧ tb (b + 1) = 111 ∧ tb (b + 2) = 116) := by
  rw [isW, decide_eq_true_eq]
  constructor
  · intro h; exact ⟨h.1, h.2 0 (by decide), h.2 1 (by decide), h.2 2 (by decide)⟩
  · rintro ⟨h0, h1, h2, h3⟩
    refine ⟨h0, fun j hj => ?_⟩
    have hj3 : j < 3 := hj
    match j, hj3 with
    | 0, _ => exact h1
    | 1, _ => exact h2
    | 2, _ => exact h3
theorem tN_y (htb : ∀ j, j < len → tb j < 256) (h : isW tb (run (bl tb) len p) (run (ltr tb) len (run (bl tb) len p)) 5 = true) : tkn tb len p = -3 ∧ run (ltr tb) len (run (bl tb) len p) = ps tb len p := by
  have h3 := isW_5.mp h
  exact ⟨(tk_not htb).mpr h3, (ps_w (by omega)).symm⟩
theorem tN_n (htb : ∀ j, j < len → tb j < 256) (h : isW tb (run (bl tb) len p) (run (ltr tb) len (run (bl tb) len p)) 5 = false) : ¬ tkn tb len p = -3 := fun h3 => by
  rw [isW_5.mpr ((tk_not htb).mp h3)] at h
  cases h
theorem sg_i {c : Nat} (hc : c < 48 ∧ 0 < c) (htb : ∀ j, j < len → tb j < 256) : tkn tb len p = nI c ↔ isA tb len (run (bl tb) len p) c c = true := by
  rw [tkn, nxT, isA, decide_eq_true_eq]
  generalize hb : run (bl tb) len p = b
  by_cases h1 : len ≤ b
  · rw [if_pos h1]
    exact ⟨fun e => absurd e.symm (nI_neg (k := 1) (by omega) (by decide)), fun e => absurd e.1 (by omega)⟩
  · rw [if_neg h1]
    have hv := htb b (by omega)
    by_cases h2 : ltr tb b = true
    · have h3 := of_decide_eq_true h2
      rw [if_pos h2, tkW]
      refine ⟨fun e => ?_, fun e => absurd e.2 (by omega)⟩
      split at e
      · have := (nI_eq (by omega) (by omega)).mp e; omega
      · split at e
        · exact absurd e.symm (nI_neg (k := 3) (by omega) (by decide))
        · exact absurd e.symm (nI_neg (k := 4) (by omega) (by decide))
    · rw [if_neg h2]
      by_cases h3 : dgt tb b = true
      · have h4 := of_decide_eq_true h3
        rw [if_pos h3]
        exact ⟨fun e => absurd e.symm (nI_neg (k := 2) (by omega) (by decide)), fun e => absurd e.2 (by omega)⟩
      · rw [if_neg h3, nI_eq (by omega) (by omega)]
        exact ⟨fun e => ⟨by omega, by omega, by omega⟩, fun e => by omega⟩
theorem sg_ps {c : Nat} (hc : c < 48 ∧ 0 < c) (h : isA tb len (run (bl tb) len p) c c = true) : ps tb len p = run (bl tb) len p + 1 := by
  have h1 := isA_lt h
  rw [ps, nxA, if_neg (by omega), if_neg (fun h2 => by have := of_decide_eq_true h2; omega), if_neg (fun h2 => by have := of_decide_eq_true h2; omega)]
theorem sg_n {c : Nat} (hc : c < 48 ∧ 0 < c) (htb : ∀ j, j < len → tb j < 256) (h : isA tb len (run (bl tb) len p) c c = false) : ¬ tkn tb len p = nI c := fun h2 => by
  rw [(sg_i hc htb).mp h2] at h
  cases h
theorem tk_end (htb : ∀ j, j < len → tb j < 256) : tkn tb len p = -1 ↔ len ≤ run (bl tb) len p := by
  have e1 : (-1 : Int32) = -(nI 1) := by decide
  rw [tkn, nxT]
  generalize hb : run (bl tb) len p = b
  by_cases h1 : len ≤ b
  · rw [if_pos h1]; exact ⟨fun _ => h1, fun _ => rfl⟩
  · rw [if_neg h1]
    have hv := htb b (by omega)
    refine ⟨fun e => ?_, fun e => absurd e h1⟩
    split at e
    · rw [tkW] at e
      split at e
      · rw [e1] at e; exact absurd e (nI_neg (by omega) (by decide))
      · split at e <;> exact absurd e (by decide)
    · split at e
      · exact absurd e (by decide)
      · rw [e1] at e; exact absurd e (nI_neg (by omega) (by decide))
theorem nvl_3 {b m : Nat} (h : 3 ≤ m) : nvl tb b m = nI 100 := by
  match m, h with
  | k + 3, _ => rfl
theorem nb_y {bd : Nat} (htb : ∀ j, j < len → tb j < 256) (hb : 0 < bd ∧ bd ≤ 100) (h : nmb tb len p bd = true) : nbr tb len (run (bl tb) len p) (bd - 1) = some (nmq tb len p) ∧ run (dgt tb) len (run (bl tb) len p) = ps tb len p := by
  obtain ⟨h1, h2⟩ := of_decide_eq_true h
  obtain ⟨a1, a2, a3⟩ := tkn_num htb h1
  have hq := (nmb_val htb hb.2 h).2
  have hs : sk tb len p = run (bl tb) len p := rfl
  rw [hs] at a1 a2 a3
  have hge := run_go (P := dgt tb) a1 a2
  have hg2 := run_ge (dgt tb) len (run (bl tb) len p + 1)
  have hv : vln tb len p 0 = nvl tb (run (bl tb) len p) (run (dgt tb) len (run (bl tb) len p) - run (bl tb) len p) := by
    rw [vln, nxV, if_neg (by omega), if_neg a3, if_pos a2]
  rw [hv] at h2
  have hp : ps tb len p = run (dgt tb) len (run (bl tb) len p) := by rw [ps, nxA, if_neg (by omega), if_neg a3, if_pos a2]
  refine ⟨?_, hp.symm⟩
  rw [nmq, hs] at hq ⊢
  rw [nbr]
  generalize hm : run (dgt tb) len (run (bl tb) len p) - run (bl tb) len p = m at *
  have hm2 : m < 3 := by
    by_cases h3 : m < 3
    · exact h3
    · rw [nvl_3 (by omega)] at h2
      have := (nI_ltI (by omega) (by omega)).mp h2
      omega
  have hm1 : m = 1 ∨ m = 2 := by omega
  rcases hm1 with rfl | rfl
  · rw [if_neg (by simp only [nm2, nmv] at *; omega)]; rfl
  · rw [if_neg (by simp only [nm2, nmv] at *; omega)]; rfl
theorem nb_n {bd : Nat} (htb : ∀ j, j < len → tb j < 256) (hb : 0 < bd ∧ bd ≤ 100) (h : ¬ nmb tb len p bd = true) : nbr tb len (run (bl tb) len p) (bd - 1) = none := by
  rw [nbr]
  by_cases hc : run (dgt tb) len (run (bl tb) len p) - run (bl tb) len p = 0 ∨ 2 < run (dgt tb) len (run (bl tb) len p) - run (bl tb) len p ∨ bd - 1 < nm2 tb (run (bl tb) len p) (run (dgt tb) len (run (bl tb) len p) - run (bl tb) len p)
  · rw [if_pos hc]
  · refine absurd (decide_eq_true ?_) h
    obtain ⟨b1, b2⟩ := run_n (P := dgt tb) (b := run (bl tb) len p) (len := len) (by omega)
    have b3 := of_decide_eq_true b2
    have b4 : ¬ ltr tb (run (bl tb) len p) = true := fun h2 => by have := of_decide_eq_true h2; omega
    refine ⟨by rw [tkn, nxT, if_neg (by omega), if_neg b4, if_pos b2], ?_⟩
    rw [vln, nxV, if_neg (by omega), if_neg b4, if_pos b2]
    have hle := nm2_le (b := run (bl tb) len p) (m := run (dgt tb) len (run (bl tb) len p) - run (bl tb) len p) htb (by have := run_le (P := dgt tb) (len := len) (p := run (bl tb) len p) (by omega); omega)
    generalize hm : run (dgt tb) len (run (bl tb) len p) - run (bl tb) len p = m at *
    have hm1 : m = 1 ∨ m = 2 := by omega
    rcases hm1 with rfl | rfl
    · simp only [nvl, nm2] at *; exact (nI_ltI (by omega) (by omega)).mpr (by omega)
    · simp only [nvl, nm2] at *; exact (nI_ltI (by omega) (by omega)).mpr (by omega)
end TK
theorem abc_n {x : Int32} (h0 : ¬ x = nI 97) (h1 : ¬ x = nI 98) (h2 : ¬ x = nI 99) : x < nI 97 ∨ ¬ x < nI 100 := by
  by_cases a : x < nI 97
  · exact Or.inl a
  · by_cases b : x < nI 100
    · obtain ⟨v, hv, rfl⟩ := var_of a b
      rcases (show v = 0 ∨ v = 1 ∨ v = 2 by omega) with rfl | rfl | rfl
      · exact absurd rfl h0
      · exact absurd rfl h1
      · exact absurd rfl h2
    · exact Or.inr b
theorem bit_or : ∀ u, u < 8 → ∀ v, v < 3 → u.testBit v = true → u ||| 2 ^ v = u := by decide +kernel
theorem abc_y : ∀ v, v < 3 → ¬ (nI (97 + v) < nI 97 ∨ ¬ nI (97 + v) < nI 100) ∧ (nI (97 + v)).toNatClampNeg - 97 = v ∧ ¬ nI (97 + v) = nI 116 := by decide +kernel
theorem tm_thing {t : Nat} (h : t < 40) : nI t = tmI t := by rw [tmI, if_pos h]
