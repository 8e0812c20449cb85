theorem tL_iff {rl en : Nat → Nat → Nat} {sz lst : Nat → Nat} {q x t : Nat} (h1 : ∀ j, j < sz q → en q j < 1000) : tL rl en sz lst q x t ↔ ∃ j, j < sz q ∧ rl q j = x ∧ en q j < 40 ∧ lst (en q j) = t := by
  constructor
  · rintro ⟨j, a, b, u, c, d⟩
    obtain ⟨e1, e2⟩ := thE_40 (h1 j a) c
    exact ⟨j, a, b, e1, by rw [e2]; exact d⟩
  · rintro ⟨j, a, b, c, d⟩
    exact ⟨j, a, b, en q j, by rw [thE, if_pos c], d⟩
/-- a term's worth under an assignment -/
def vW (lst te w : Nat → Nat) (k : Nat) : Nat := if te k < 40 then lst (te k) else w (te k - 40)
def fW (sz : Nat → Nat) (rl en : Nat → Nat → Nat) (lst ro te : Nat → Nat) (i q r p : Nat) (gv : Nat → Option Nat) (x : Nat) (w : Nat → Nat) : Prop :=
  (∀ v, v < 3 → w v < 40) ∧ (∀ v, v < 3 → ∀ t, gv v = some t → w v = t) ∧ (∀ v, v < 3 → gv v = none → (∀ k, p ≤ k → k < p + r → te (i * 4 + k) ≠ 40 + v) → w v = 0) ∧ x = ((i * 40 + w 0) * 40 + w 1) * 40 + w 2 ∧ ∀ k, p ≤ k → k < p + r → ∃ j, j < sz q ∧ rl q j = ro (i * 4 + k) ∧ en q j < 40 ∧ lst (en q j) = vW lst te w (i * 4 + k)
theorem ftS_iff {sz : Nat → Nat} {rl en : Nat → Nat → Nat} {lst ro te : Nat → Nat} {i q : Nat} (hlst : ∀ u, u < 40 → lst u < 40) : ∀ (r p : Nat) (gv : Nat → Option Nat) (x : Nat), (∀ v, v < 3 → ∀ t, gv v = some t → t < 40) → (∀ k, p ≤ k → k < p + r → te (i * 4 + k) < 43) → (ftS sz rl en lst ro te i q r p gv x ↔ ∃ w, fW sz rl en lst ro te i q r p gv x w) := by
  intro r
  induction r with
  | zero =>
    intro p gv x hg ht
    show x = pl3 i gv ↔ _
    constructor
    · intro h
      exact ⟨fun v => (gv v).getD 0, fun v hv => gz_lt (hg v hv), fun v hv t h1 => o_getD h1, fun v hv h1 _ => by show (gv v).getD 0 = 0; rw [h1]; rfl, h, fun k h1 h2 => absurd h2 (by omega)⟩
    · rintro ⟨w, h1, h2, h3, h4, -⟩
      have hw : ∀ v, v < 3 → w v = (gv v).getD 0 := fun v hv => by
        cases e : gv v with
        | none => exact h3 v hv e (fun k a b => absurd b (by omega))
        | some t => exact h2 v hv t e
      rw [h4, pl3, hw 0 (by decide), hw 1 (by decide), hw 2 (by decide)]
  | succ r ih =>
    intro p gv x hg ht
    have ht1 : ∀ k, p + 1 ≤ k → k < p + 1 + r → te (i * 4 + k) < 43 := fun k a b => ht k (by omega) (by omega)
    have htp := ht p (by omega) (by omega)
    rw [ftS]
    constructor
    · rintro ⟨j, hj, hr, he, ⟨a1, a2, a3⟩ | ⟨a1, a2, a3⟩⟩
      · obtain ⟨w, h1, h2, h3, h4, h5⟩ := (ih (p + 1) gv x hg ht1).mp a3
        refine ⟨w, h1, h2, fun v hv e hn => h3 v hv e (fun k a b => hn k (by omega) (by omega)), h4, fun k a b => ?_⟩
        by_cases ek : k = p
        · subst ek; exact ⟨j, hj, hr, he, by rw [vW, if_pos a1]; exact a2.symm⟩
        · exact h5 k (by omega) (by omega)
      · have hle := hlst _ he
        obtain ⟨w, h1, h2, h3, h4, h5⟩ := (ih (p + 1) _ x (gv_up hg hle) ht1).mp a3
        have hwv : w (te (i * 4 + p) - 40) = lst (en q j) := h2 _ (by omega) _ (va_up_self _ _ _)
        refine ⟨w, h1, fun v hv t e => ?_, fun v hv e hn => ?_, h4, fun k a b => ?_⟩
        · by_cases ev : v = te (i * 4 + p) - 40
          · subst ev
            rcases a2 with a2 | a2
            · rw [a2] at e; cases e
            · rw [a2] at e; cases e; exact hwv
          · exact h2 v hv t (by rw [va_up_ne _ _ ev]; exact e)
        · have ev : v ≠ te (i * 4 + p) - 40 := fun ev => hn p (by omega) (by omega) (by omega)
          exact h3 v hv (by rw [va_up_ne _ _ ev]; exact e) (fun k a b => hn k (by omega) (by omega))
        · by_cases ek : k = p
          · subst ek; exact ⟨j, hj, hr, he, by rw [vW, if_neg (by omega)]; exact hwv.symm⟩
          · exact h5 k (by omega) (by omega)
    · rintro ⟨w, h1, h2, h3, h4, h5⟩
      obtain ⟨j, hj, hr, he, hv⟩ := h5 p (by omega) (by omega)
      by_cases a1 : te (i * 4 + p) < 40
      · rw [vW, if_pos a1] at hv
        refine ⟨j, hj, hr, he, Or.inl ⟨a1, hv.symm, (ih (p + 1) gv x hg ht1).mpr ⟨w, h1, h2, fun v hv9 e hn => h3 v hv9 e (fun k a b => ?_), h4, fun k a b => h5 k (by omega) (by omega)⟩⟩⟩
        by_cases ek : k = p
        · subst ek; omega
        · exact hn k (by omega) (by omega)
      · rw [vW, if_neg a1] at hv
        have hle := hlst _ he
        refine ⟨j, hj, hr, he, Or.inr ⟨by omega, ?_, (ih (p + 1) _ x (gv_up hg hle) ht1).mpr ⟨w, h1, fun v hv9 t e => ?_, fun v hv9 e hn => ?_, h4, fun k a b => h5 k (by omega) (by omega)⟩⟩⟩
        · cases e : gv (te (i * 4 + p) - 40) with
          | none => exact Or.inl rfl
          | some t => exact Or.inr (by rw [hv, h2 _ (by omega) t e])
        · by_cases ev : v = te (i * 4 + p) - 40
          · subst ev; rw [va_up_self] at e; cases e; exact hv.symm
          · rw [va_up_ne _ _ ev] at e; exact h2 v hv9 t e
        · by_cases ev : v = te (i * 4 + p) - 40
          · subst ev; rw [va_up_self] at e; cases e
          · rw [va_up_ne _ _ ev] at e
            refine h3 v hv9 e (fun k a b => ?_)
            by_cases ek : k = p
            · subst ek; omega
            · exact hn k (by omega) (by omega)
theorem ub_lt {te : Nat → Nat} {i : Nat} : ∀ m, (∀ k, k < m → te (i * 4 + k) < 43) → ub te i m < 8 := by
  intro m
  induction m with
  | zero => intro _; exact Nat.zero_lt_succ 7
  | succ m ih => intro h; exact or8 _ (ih (fun k hk => h k (by omega))) _ (vb_lt (h m (by omega)))
theorem vb_bit {t v : Nat} : (vb t).testBit v = true ↔ t = 40 + v := by
  rw [vb]
  by_cases h : t < 40
  · rw [if_pos h, Nat.zero_testBit]; exact ⟨fun h => (by cases h), fun h => absurd h (by omega)⟩
  · rw [if_neg h, Nat.testBit_two_pow, decide_eq_true_eq]; omega
theorem ub_bit {te : Nat → Nat} {i v : Nat} : ∀ m, (ub te i m).testBit v = true ↔ ∃ k, k < m ∧ te (i * 4 + k) = 40 + v := by
  intro m
  induction m with
  | zero => rw [ub, Nat.zero_testBit]; exact ⟨fun h => (by cases h), fun ⟨k, h, _⟩ => absurd h (Nat.not_lt_zero k)⟩
  | succ m ih =>
    rw [ub, Nat.testBit_or, Bool.or_eq_true, ih, vb_bit]
    constructor
    · rintro (⟨k, a, b⟩ | a)
      · exact ⟨k, by omega, b⟩
      · exact ⟨m, by omega, a⟩
    · rintro ⟨k, a, b⟩
      by_cases e : k = m
      · subst e; exact Or.inr b
      · exact Or.inl ⟨k, by omega, b⟩
theorem pk_y {u v x : Nat} (hu : u < 8) (hv : v < 3) (h : u.testBit v = true) : pkA u (2 ^ v) x = x := by
  rw [pkA, if_neg (fun h1 => by rw [(bit3 u hu v hv).1.mp h1] at h; cases h)]
theorem pk_n {u v x : Nat} (hu : u < 8) (hv : v < 3) (h : u.testBit v = false) : pkA u (2 ^ v) x = 0 := by
  rw [pkA, if_pos ((bit3 u hu v hv).1.mpr h)]
section AT
variable {n ao : Nat} {kd : Nat → Nat} {fm to : Nat → Int32} {sz : Nat → Nat} {rl en : Nat → Nat → Nat} {lst ro te kn ap : Nat → Nat} {gv : Nat → Option Nat} {d : Int32} {tr nt : Nat → Bool} {i a b c vr : Nat}
theorem vW_eq {w : Nat → Nat} {k : Nat} (hk : te k < 43) (hu : ub te i (ap i) < 8) (hw : ∀ v, v < 3 → w v = pkA (ub te i (ap i)) (2 ^ v) (cmp3 a b c v)) (hb : 40 ≤ te k → (ub te i (ap i)).testBit (te k - 40) = true) : vW lst te w k = vlT lst a b c (te k) := by
  by_cases h : te k < 40
  · rw [vW, vlT, if_pos h, if_pos h]
  · rw [vW, if_neg h, hw _ (by omega), pk_y hu (by omega) (hb (by omega))]
    have e : te k = 40 + (te k - 40) := by omega
    rw [e, vlT_v (by omega), show 40 + (te k - 40) - 40 = te k - 40 by omega]
theorem an_tr (hw : LSw n kd sz rl en) (hT : ∀ x, x < ao * 64000 → (tr x = true ↔ ∃ i9, i9 < ao ∧ ∃ l9, l9 < n ∧ aQ kd fm to sz rl en lst ro te kn ap gv d i9 l9 x)) (hgv : ∀ v, v < 3 → gv v = none) (hte : ∀ i, i < ao → ∀ k, k < ap i → te (i * 4 + k) < 43) (hlst : ∀ u, u < 40 → lst u < 40) (hi : i < ao) (ha : a < 40) (hb : b < 40) (hc : c < 40) : anI tr te ap i a b c = true ↔ aTr n (kQ kd fm to kn d) (tL rl en sz lst) lst ro te ap i a b c := by
  have hlt : ∀ l, l < n → ∀ j, j < sz l → en l j < 1000 := fun l hl j hj => by have := ((hw.2 l hl).2.2 j hj).2; have := hw.1; omega
  have hgs : ∀ v, v < 3 → ∀ t, gv v = some t → t < 40 := fun v hv t ht => by rw [hgv v hv] at ht; cases ht
  have hu := ub_lt (te := te) (i := i) (ap i) (hte i hi)
  have hA : pkA (ub te i (ap i)) 1 a < 40 := pkA_lt ha
  have hB : pkA (ub te i (ap i)) 2 b < 40 := pkA_lt hb
  have hC : pkA (ub te i (ap i)) 4 c < 40 := pkA_lt hc
  rw [anI, hT _ (by omega)]
  constructor
  · rintro ⟨i9, hi9, l9, hl9, hk, hon, hf⟩
    obtain ⟨w, h1, h2, h3, h4, h5⟩ := (ftS_iff hlst (ap i9) 0 gv _ hgs (fun k _ hk => hte i9 hi9 k (by omega))).mp hf
    have w0 := h1 0 (by decide)
    have w1 := h1 1 (by decide)
    have w2 := h1 2 (by decide)
    have e1 : i9 = i := by omega
    subst e1
    have hw' : ∀ v, v < 3 → w v = pkA (ub te i9 (ap i9)) (2 ^ v) (cmp3 a b c v) := fun v hv => by
      rcases (show v = 0 ∨ v = 1 ∨ v = 2 by omega) with rfl | rfl | rfl
      · show w 0 = pkA _ 1 a; omega
      · show w 1 = pkA _ 2 b; omega
      · show w 2 = pkA _ 4 c; omega
    refine ⟨l9, hl9, ⟨hk, hon⟩, fun p hp => (tL_iff (hlt l9 hl9)).mpr ?_⟩
    obtain ⟨j, g1, g2, g3, g4⟩ := h5 p (Nat.zero_le _) (by omega)
    refine ⟨j, g1, g2, g3, g4.trans (vW_eq (i := i9) (ap := ap) (hte i9 hi p hp) hu hw' (fun h40 => (ub_bit _).mpr ⟨p, hp, ?_⟩))⟩
    omega
  · rintro ⟨q, hq, hK, h⟩
    refine ⟨i, hi, q, hq, hK.1, hK.2, (ftS_iff hlst (ap i) 0 gv _ hgs (fun k _ hk => hte i hi k (by omega))).mpr ⟨fun v => pkA (ub te i (ap i)) (2 ^ v) (cmp3 a b c v), fun v hv => pkA_lt (cmp3_lt ha hb hc), fun v hv t ht => ?_, fun v hv _ hn => ?_, rfl, fun k _ hk => ?_⟩⟩
    · rw [hgv v hv] at ht; cases ht
    · refine pk_n hu hv ?_
      cases e : (ub te i (ap i)).testBit v with
      | false => rfl
      | true =>
        obtain ⟨k, g1, g2⟩ := (ub_bit _).mp e
        exact absurd g2 (hn k (Nat.zero_le _) (by omega))
    · obtain ⟨j, g1, g2, g3, g4⟩ := (tL_iff (hlt q hq)).mp (h k (by omega))
      refine ⟨j, g1, g2, g3, g4.trans (vW_eq (i := i) (ap := ap) (a := a) (b := b) (c := c) (hte i hi k (by omega)) hu (fun v hv => rfl) (fun h40 => (ub_bit _).mpr ⟨k, by omega, ?_⟩)).symm⟩
      omega
theorem okM_iff : ∀ m, okM tr nt te ap a b c m = true ↔ ∀ i, i < m → (anI tr te ap i a b c = true ↔ nt i = false) := by
  intro m
  induction m with
  | zero => exact ⟨fun _ i hi => absurd hi (Nat.not_lt_zero i), fun _ => rfl⟩
  | succ m ih =>
    rw [okM, Bool.and_eq_true, ih, decide_eq_true_eq]
    have key : anI tr te ap m a b c ≠ nt m ↔ (anI tr te ap m a b c = true ↔ nt m = false) := by
      cases anI tr te ap m a b c <;> cases nt m <;> simp
    rw [key]
    exact ⟨fun h => lt_s2 h.1 h.2, fun h => ⟨fun i hi => h i (by omega), h m (by omega)⟩⟩
theorem opn_iff {v t : Nat} : opn vr lst v t = true ↔ (vr.testBit v = true → lst t = t) ∧ (vr.testBit v = false → t = 0) := by
  rw [opn]
  cases vr.testBit v <;> simp
theorem gP_iff (hw : LSw n kd sz rl en) (hT : ∀ x, x < ao * 64000 → (tr x = true ↔ ∃ i9, i9 < ao ∧ ∃ l9, l9 < n ∧ aQ kd fm to sz rl en lst ro te kn ap gv d i9 l9 x)) (hgv : ∀ v, v < 3 → gv v = none) (hte : ∀ i, i < ao → ∀ k, k < ap i → te (i * 4 + k) < 43) (hlst : ∀ u, u < 40 → lst u < 40) (hid : ∀ u, u < 40 → lst (lst u) = lst u) (hpos : ∀ v, v < 3 → vr.testBit v = true → ∃ i, i < ao ∧ nt i = false ∧ ∃ k, k < ap i ∧ te (i * 4 + k) = 40 + v) (ha : a < 40) (hb : b < 40) (hc : c < 40) : gP vr lst tr nt te ap ao (a * 1600 + b * 40 + c) = true ↔ ANS n (kQ kd fm to kn d) (tL rl en sz lst) lst ro te ap nt vr ao a b c := by
  have hlt : ∀ l, l < n → ∀ j, j < sz l → en l j < 1000 := fun l hl j hj => by have := ((hw.2 l hl).2.2 j hj).2; have := hw.1; omega
  have hall : okM tr nt te ap a b c ao = true ↔ ∀ i, i < ao → (aTr n (kQ kd fm to kn d) (tL rl en sz lst) lst ro te ap i a b c ↔ nt i = false) := by
    rw [okM_iff]
    exact ⟨fun h i hi => (an_tr hw hT hgv hte hlst hi ha hb hc).symm.trans (h i hi), fun h i hi => (an_tr hw hT hgv hte hlst hi ha hb hc).trans (h i hi)⟩
  rw [gP_at hb hc, Bool.and_eq_true, Bool.and_eq_true, Bool.and_eq_true, hall, opn_iff, opn_iff, opn_iff, ANS]
  constructor
  · rintro ⟨h0, h1, h2, h3⟩
    refine ⟨fun v hv hu => ?_, h3⟩
    rcases (show v = 0 ∨ v = 1 ∨ v = 2 by omega) with rfl | rfl | rfl
    · exact h0.2 hu
    · exact h1.2 hu
    · exact h2.2 hu
  · rintro ⟨h0, h3⟩
    have key : ∀ v, v < 3 → vr.testBit v = true → lst (cmp3 a b c v) = cmp3 a b c v := fun v hv hu => by
      obtain ⟨i, hi, hn, k, hk, ht⟩ := hpos v hv hu
      obtain ⟨q, hq, -, hp⟩ := (h3 i hi).mpr hn
      have h4 := hp k hk
      rw [ht, vlT_v hv] at h4
      obtain ⟨j, -, -, g3, g4⟩ := (tL_iff (hlt q hq)).mp h4
      rw [← g4]
      exact hid _ g3
    exact ⟨⟨key 0 (by decide), h0 0 (by decide)⟩, ⟨key 1 (by decide), h0 1 (by decide)⟩, ⟨key 2 (by decide), h0 2 (by decide)⟩, h3⟩
theorem P_eq {P : Nat → Bool} (hP : aP P n (kQ kd fm to kn d) (tL rl en sz lst) lst ro te ap nt vr ao) (hw : LSw n kd sz rl en) (hT : ∀ x, x < ao * 64000 → (tr x = true ↔ ∃ i9, i9 < ao ∧ ∃ l9, l9 < n ∧ aQ kd fm to sz rl en lst ro te kn ap gv d i9 l9 x)) (hgv : ∀ v, v < 3 → gv v = none) (hte : ∀ i, i < ao → ∀ k, k < ap i → te (i * 4 + k) < 43) (hlst : ∀ u, u < 40 → lst u < 40) (hid : ∀ u, u < 40 → lst (lst u) = lst u) (hpos : ∀ v, v < 3 → vr.testBit v = true → ∃ i, i < ao ∧ nt i = false ∧ ∃ k, k < ap i ∧ te (i * 4 + k) = 40 + v) : ∀ k, k < 64000 → P k = gP vr lst tr nt te ap ao k := fun k hk => by
  have e : k = (k / 1600) * 1600 + (k / 40 % 40) * 40 + k % 40 := by omega
  rw [e]
  exact bool_ext ((hP _ _ _ (by omega) (by omega) (by omega)).trans (gP_iff hw hT hgv hte hlst hid hpos (by omega) (by omega) (by omega)).symm)
end AT
